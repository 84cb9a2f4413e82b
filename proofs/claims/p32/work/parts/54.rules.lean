/-! RULES: what the class makes of a text (letters, steps, numbers), what the reference copies -/
theorem nar_c {x : Nat} (h : x < 65536) : vp_nar .char (nI x) = nI x := by unfold vp_nar; rw [(pk_charN h).1]
def stp (x : Nat) : Bool := !decide (x = 59) && !dgN x
def idx (T : Nat → Nat) (k : Nat) : Nat := cntS (fun j => stp (T j)) k
theorem idx_s (T : Nat → Nat) (k : Nat) : idx T (k + 1) = idx T k + (if stp (T k) = true then 1 else 0) := rfl
theorem idx_le (T : Nat → Nat) (k : Nat) : idx T k ≤ k := cntS_le
theorem idx_mono {T : Nat → Nat} {j k : Nat} (h : j ≤ k) : idx T j ≤ idx T k := by
  obtain ⟨d, rfl⟩ : ∃ d, k = j + d := ⟨k - j, by omega⟩
  induction d with
  | zero => exact Nat.le_refl _
  | succ d ih => rw [← Nat.add_assoc, idx_s]; have := ih (by omega); omega
theorem idx_lt {T : Nat → Nat} {j k : Nat} (h : j < k) (hs : stp (T j) = true) : idx T j < idx T k := by
  have h1 : idx T (j + 1) ≤ idx T k := idx_mono h
  rw [idx_s, if_pos hs] at h1
  omega
theorem idx_ne {T : Nat → Nat} {j k : Nat} (h : j ≠ k) (hj : stp (T j) = true) (hk : stp (T k) = true) : idx T j ≠ idx T k := by
  rcases Nat.lt_or_gt_of_ne h with g | g
  · have := idx_lt g hj; omega
  · have := idx_lt g hk; omega
/-- the open brackets ahead of a place, the innermost first -/
def bst (T : Nat → Nat) : Nat → List Nat
  | 0 => []
  | k + 1 => if T k = 40 then k :: bst T k else if T k = 41 then (bst T k).tail else bst T k
theorem bst_s (T : Nat → Nat) (k : Nat) : bst T (k + 1) = if T k = 40 then k :: bst T k else if T k = 41 then (bst T k).tail else bst T k := rfl
theorem bst_mem {T : Nat → Nat} : ∀ k p, p ∈ bst T k → p < k ∧ T p = 40 := by
  intro k
  induction k with
  | zero => intro p h; cases h
  | succ k ih =>
    intro p h
    unfold bst at h
    by_cases c1 : T k = 40
    · rw [if_pos c1] at h
      rcases List.mem_cons.mp h with e | e
      · subst e; exact ⟨by omega, c1⟩
      · have := ih p e; exact ⟨by omega, this.2⟩
    · rw [if_neg c1] at h
      by_cases c2 : T k = 41
      · rw [if_pos c2] at h
        have := ih p (List.mem_of_mem_tail h); exact ⟨by omega, this.2⟩
      · rw [if_neg c2] at h
        have := ih p h; exact ⟨by omega, this.2⟩
theorem bst_len {T : Nat → Nat} : ∀ k s d, scn T k = some (s, d) → (bst T k).length = d := by
  intro k
  induction k with
  | zero => intro s d h; unfold scn at h; simp only [Option.some.injEq, Prod.mk.injEq] at h; rw [← h.2]; rfl
  | succ k ih =>
    intro s' d' h
    obtain ⟨s, d, h1, h2⟩ := scn_some h
    have hl := ih s d h1
    unfold bst
    by_cases c1 : T k = 40
    · rw [c1] at h2
      rw [if_pos c1, List.length_cons, hl, tst_40 h2]
    · rw [if_neg c1]
      by_cases c2 : T k = 41
      · rw [c2] at h2
        rw [if_pos c2, List.length_tail, hl, (tst_41 h2).2]
      · rw [if_neg c2, hl, tst_oth c1 c2 h2]
theorem stp_40 : stp 40 = true := rfl
theorem stp_41 : stp 41 = true := rfl
theorem stp_101 : stp 101 = true := rfl
theorem stp_dg {x : Nat} (h : dgN x = true) : stp x = false := by unfold stp; rw [h]; cases decide (x = 59) <;> rfl
def encS (T : Nat → Nat) : List Nat → Int32
  | [] => -1
  | p :: _ => nI (idx T p)
def shr (T : Nat → Nat) (j : Nat) : Nat := if dgN (T (j + 2)) = true then 10 * (T (j + 1) - 48) + (T (j + 2) - 48) else T (j + 1) - 48
/-- e's number, as far as k letters tell it -/
def numE (T : Nat → Nat) (j k : Nat) : Nat := if k ≤ j + 1 then 0 else if k ≤ j + 2 then T (j + 1) - 48 else shr T j
theorem tst_3 {x s d d' : Nat} (h : tst x s d = some (3, d')) : x = 101 := by
  unfold tst at h
  repeat' split at h
  all_goals first | (cases h; done) | assumption | (simp only [Option.some.injEq, Prod.mk.injEq] at h; omega)
theorem tst_4 {x s d d' : Nat} (h : tst x s d = some (4, d')) : s = 3 ∧ dgN x = true := by
  unfold tst at h
  repeat' split at h
  all_goals first | (cases h; done) | exact ⟨by assumption, by assumption⟩ | (simp only [Option.some.injEq, Prod.mk.injEq] at h; omega)
theorem tst_e {s d s' d' : Nat} (h : tst 101 s d = some (s', d')) : s' = 3 ∧ s ≠ 2 ∧ s ≠ 3 ∧ s ≠ 4 := by
  unfold tst at h
  repeat' split at h
  all_goals first | (cases h; done) | (simp [dgN, plN] at *; done) | (simp only [Option.some.injEq, Prod.mk.injEq] at h; omega)
theorem tst_p {x s d s' d' : Nat} (hp : plN x = true) (h : tst x s d = some (s', d')) : s' = 2 ∧ s ≠ 2 ∧ s ≠ 3 ∧ s ≠ 4 := by
  rcases cls x with ⟨rfl, h5, h6⟩ | ⟨rfl, h5, h6⟩ | ⟨rfl, h5, h6⟩ | ⟨rfl, h5, h6⟩ | ⟨h1, h2, h3, h4, h5, h6⟩ | ⟨h1, h2, h3, h4, h5, h6⟩ | ⟨h1, h2, h3, h4, h5, h6⟩ <;> rw [h5] at hp <;> first | (cases hp; done) | skip
  unfold tst at h
  rw [if_neg h3, if_neg h2, if_neg h4, if_pos h5] at h
  rw [h6] at h
  repeat' split at h
  all_goals first | (cases h; done) | (exfalso; simp at *; done) | (simp only [Option.some.injEq, Prod.mk.injEq] at h; omega)
theorem tst_d {x s d s' d' : Nat} (hp : dgN x = true) (h : tst x s d = some (s', d')) : s = 3 ∨ s = 4 := by
  rcases cls x with ⟨rfl, h5, h6⟩ | ⟨rfl, h5, h6⟩ | ⟨rfl, h5, h6⟩ | ⟨rfl, h5, h6⟩ | ⟨h1, h2, h3, h4, h5, h6⟩ | ⟨h1, h2, h3, h4, h5, h6⟩ | ⟨h1, h2, h3, h4, h5, h6⟩ <;> rw [h6] at hp <;> first | (cases hp; done) | skip
  unfold tst at h
  rw [if_neg h3, if_neg h2, if_neg h4, h5, if_neg h1] at h
  repeat' split at h
  all_goals first | (cases h; done) | omega | (exfalso; simp at *; done)
theorem tst_2 {x d s' d' : Nat} (h : tst x 2 d = some (s', d')) : x = 59 ∧ s' = 1 := by
  unfold tst at h
  rw [if_pos rfl] at h
  split at h
  · simp only [Option.some.injEq, Prod.mk.injEq] at h; exact ⟨by assumption, by omega⟩
  · cases h
theorem tst_3d {x d s' d' : Nat} (h : tst x 3 d = some (s', d')) : dgN x = true ∧ s' = 4 := by
  unfold tst at h
  rw [if_neg (by decide), if_pos rfl] at h
  split at h
  · simp only [Option.some.injEq, Prod.mk.injEq] at h; exact ⟨by assumption, by omega⟩
  · cases h
theorem tst_4d {x d s' d' : Nat} (h : tst x 4 d = some (s', d')) : (x = 59 ∧ s' = 1) ∨ (dgN x = true ∧ s' = 2) := by
  unfold tst at h
  rw [if_neg (by decide), if_neg (by decide), if_pos rfl] at h
  split at h
  · simp only [Option.some.injEq, Prod.mk.injEq] at h; exact Or.inl ⟨by assumption, by omega⟩
  · split at h
    · simp only [Option.some.injEq, Prod.mk.injEq] at h; exact Or.inr ⟨by assumption, by omega⟩
    · cases h
theorem wf_lt {T : Nat → Nat} {len k s d : Nat} (h : WF T len) (hk : k ≤ len) (e : scn T k = some (s, d)) (hs : s ≠ 1) : k < len := by
  rcases Nat.lt_or_eq_of_le hk with g | g
  · exact g
  · subst g
    unfold WF at h
    rw [h] at e
    simp only [Option.some.injEq, Prod.mk.injEq] at e
    omega
theorem st3 {T : Nat → Nat} {k d : Nat} (h : scn T k = some (3, d)) : ∃ j, k = j + 1 ∧ T j = 101 := by
  cases k with
  | zero => unfold scn at h; cases h
  | succ j => obtain ⟨s, d2, h1, h2⟩ := scn_some h; exact ⟨j, rfl, tst_3 h2⟩
theorem st4 {T : Nat → Nat} {k d : Nat} (h : scn T k = some (4, d)) : ∃ j, k = j + 2 ∧ T j = 101 ∧ dgN (T (j + 1)) = true := by
  cases k with
  | zero => unfold scn at h; cases h
  | succ k =>
    obtain ⟨s, d2, h1, h2⟩ := scn_some h
    obtain ⟨rfl, h3⟩ := tst_4 h2
    obtain ⟨j, rfl, h4⟩ := st3 h1
    exact ⟨j, rfl, h4, h3⟩
/-- an e, its figures and its semicolon -/
theorem e_nx {T : Nat → Nat} {len j : Nat} (h : WF T len) (hj : j < len) (hT : T j = 101) : ∃ d, scn T (j + 1) = some (3, d) ∧ scn T (j + 2) = some (4, d) ∧ j + 2 < len ∧ dgN (T (j + 1)) = true ∧ ((T (j + 2) = 59 ∧ scn T (j + 3) = some (1, d)) ∨ (dgN (T (j + 2)) = true ∧ j + 3 < len ∧ T (j + 3) = 59 ∧ scn T (j + 3) = some (2, d) ∧ scn T (j + 4) = some (1, d))) := by
  obtain ⟨s, d, s1, d1, a1, a2, a3⟩ := scn_step h hj
  have b1 := tst_oth (by rw [hT]; decide) (by rw [hT]; decide) a2
  rw [hT] at a2
  obtain ⟨rfl, -⟩ := tst_e a2
  subst b1
  have c1 := wf_lt h hj a3 (by decide)
  obtain ⟨s, d, s2, d2, a4, a5, a6⟩ := scn_step h c1
  rw [a3] at a4
  simp only [Option.some.injEq, Prod.mk.injEq] at a4
  obtain ⟨rfl, rfl⟩ := a4
  obtain ⟨c2, rfl⟩ := tst_3d a5
  have b2 := tst_oth (fun e => by rw [e] at c2; cases c2) (fun e => by rw [e] at c2; cases c2) a5
  subst b2
  have c3 := wf_lt h c1 a6 (by decide)
  obtain ⟨s, d, s3, d3, a7, a8, a9⟩ := scn_step h c3
  rw [show j + 1 + 1 = j + 2 from rfl, ] at a6
  rw [a6] at a7
  simp only [Option.some.injEq, Prod.mk.injEq] at a7
  obtain ⟨rfl, rfl⟩ := a7
  refine ⟨_, a3, a6, c3, c2, ?_⟩
  rcases tst_4d a8 with ⟨c4, rfl⟩ | ⟨c4, rfl⟩
  · have b3 := tst_oth (fun e => absurd (c4.symm.trans e) (by decide)) (fun e => absurd (c4.symm.trans e) (by decide)) a8
    subst b3
    exact Or.inl ⟨c4, a9⟩
  · have b3 := tst_oth (fun e => by rw [e] at c4; cases c4) (fun e => by rw [e] at c4; cases c4) a8
    subst b3
    have c5 := wf_lt h c3 a9 (by decide)
    obtain ⟨s, d, s4, d4, b7, b8, b9⟩ := scn_step h c5
    rw [a9] at b7
    simp only [Option.some.injEq, Prod.mk.injEq] at b7
    obtain ⟨rfl, rfl⟩ := b7
    obtain ⟨c6, rfl⟩ := tst_2 b8
    have b4 := tst_oth (by rw [c6]; decide) (by rw [c6]; decide) b8
    subst b4
    exact Or.inr ⟨c4, c5, c6, a9, b9⟩
theorem p_nx {T : Nat → Nat} {len j : Nat} (h : WF T len) (hj : j < len) (hT : plN (T j) = true) : ∃ d, scn T (j + 1) = some (2, d) ∧ j + 1 < len ∧ T (j + 1) = 59 ∧ scn T (j + 2) = some (1, d) := by
  obtain ⟨s, d, s1, d1, a1, a2, a3⟩ := scn_step h hj
  obtain ⟨rfl, -⟩ := tst_p hT a2
  have c1 := wf_lt h hj a3 (by decide)
  obtain ⟨s, d, s2, d2, a4, a5, a6⟩ := scn_step h c1
  rw [a3] at a4
  simp only [Option.some.injEq, Prod.mk.injEq] at a4
  obtain ⟨rfl, rfl⟩ := a4
  obtain ⟨c2, rfl⟩ := tst_2 a5
  have b1 := tst_oth (by rw [c2]; decide) (by rw [c2]; decide) a5
  subst b1
  exact ⟨_, a3, c1, c2, a6⟩
theorem numE_s {T : Nat → Nat} {len j k : Nat} (h : WF T len) (hj : T j = 101) (hjk : j < k) (hk : k < len) (hd : dgN (T k) = false) : numE T j (k + 1) = numE T j k := by
  obtain ⟨d, a1, a2, a3, a4, a5⟩ := e_nx h (by omega) hj
  have h1 : k ≠ j + 1 := fun e => by subst e; rw [a4] at hd; cases hd
  have l : numE T j (k + 1) = shr T j := by
    unfold numE
    rw [if_neg (show ¬ k + 1 ≤ j + 1 by omega), if_neg (show ¬ k + 1 ≤ j + 2 by omega)]
  rw [l]
  unfold numE
  rw [if_neg (show ¬ k ≤ j + 1 by omega)]
  by_cases c : k ≤ j + 2
  · have e : k = j + 2 := by omega
    subst e
    rw [if_pos c]
    unfold shr
    rw [hd]; rfl
  · rw [if_neg c]
theorem numE_d {T : Nat → Nat} {len j j0 k : Nat} (h : WF T len) (hj : T j = 101) (hjk : j < k) (hk : k < len) (hd : dgN (T k) = true) (h0 : T j0 = 101) (hk0 : k = j0 + 1 ∨ (k = j0 + 2 ∧ dgN (T (j0 + 1)) = true)) (hne : j ≠ j0) : numE T j (k + 1) = numE T j k := by
  obtain ⟨d, a1, a2, a3, a4, a5⟩ := e_nx h (by omega) hj
  have hdn : dgN 101 = false := rfl
  have h1 : k ≠ j + 1 := by
    intro e
    rcases hk0 with e2 | ⟨e2, e3⟩
    · omega
    · rw [show j0 + 1 = j by omega, hj, hdn] at e3; cases e3
  have h2 : k ≠ j + 2 := by
    intro e
    rcases hk0 with e2 | ⟨e2, e3⟩
    · rw [show j + 1 = j0 by omega, h0, hdn] at a4; cases a4
    · omega
  unfold numE
  rw [if_neg (show ¬ k + 1 ≤ j + 1 by omega), if_neg (show ¬ k + 1 ≤ j + 2 by omega), if_neg (show ¬ k ≤ j + 1 by omega), if_neg (show ¬ k ≤ j + 2 by omega)]
/-- the class's side of a rule -/
def RuC (w : Wt) (r : Nat) (T : Nat → Nat) (len : Nat) : Prop := (w (32 + r) 3 = nI len ∧ w (32 + r) 4 = nI (idx T len) ∧ w (32 + r) 5 = nI (cntS (fun j => decide (T j = 59)) len)) ∧ (∀ j, j < len → w (40 + r) j = nI (T j)) ∧ (∀ j, j < len → stp (T j) = true → w (48 + r) (idx T j) = nI (T j)) ∧ (∀ j, j < len → T j = 41 → ∃ p st, bst T j = p :: st ∧ w (56 + r) (idx T j) = nI (idx T p)) ∧ (∀ j, j < len → T j = 101 → w (56 + r) (idx T j) = nI (shr T j))
def RuM (m : Wt) (r : Nat) (T : Nat → Nat) (len : Nat) : Prop := m 8 r = nI len ∧ ∀ j, j < len → m 7 (24 * r + j) = nI (T j)
/-- behind k letters -/
def CI (w : Wt) (r : Nat) (T : Nat → Nat) (len k : Nat) (inn : Int32) (w' : Wt) : Prop :=
  (w' (32 + r) 3 = nI len ∧ w' (32 + r) 4 = nI (idx T k) ∧ w' (32 + r) 5 = nI (cntS (fun j => decide (T j = 59)) k) ∧ inn = encS T (bst T k)) ∧ (∀ j, j < k → w' (40 + r) j = nI (T j)) ∧ (∀ j, j < k → stp (T j) = true → w' (48 + r) (idx T j) = nI (T j)) ∧
  (∀ p rest, (p :: rest) <:+ bst T k → w' (56 + r) (idx T p) = encS T rest) ∧ (∀ j, j < k → T j = 41 → ∃ p st, bst T j = p :: st ∧ w' (56 + r) (idx T j) = nI (idx T p)) ∧ (∀ j, j < k → T j = 101 → w' (56 + r) (idx T j) = nI (numE T j k)) ∧ (∀ i, i ≠ 32 + r → i ≠ 40 + r → i ≠ 48 + r → i ≠ 56 + r → w' i = w i)
theorem take_step {w : Wt} {T : Nat → Nat} {len r k : Nat} (hr : r < 8) (hlen : len ≤ 24) (hWF : WF T len) (hT : ∀ k, k < len → w 8 k = nI (T k) ∧ T k < 65536) (hk : k < len) {inn : Int32} {w' : Wt} (h : CI w r T len k inn w') : Ok (f_Rule_take_L22 r (inn, nI k, w')) (fun x => match x with | .inl s' => s'.2.1 = nI (k + 1) ∧ CI w r T len (k + 1) s'.1 s'.2.2 | .inr _ => False) := by
  obtain ⟨⟨h1, h2, h3, rfl⟩, h4, h5, h6, h7, h8, h9⟩ := h
  obtain ⟨hT1, hT2⟩ := hT k hk
  have e1 : ¬ w' (32 + r) 3 ≤ nI k := by rw [h1, nl_le (by omega) (by omega)]; omega
  have e2 : inb (nI k) 24 = true := nl_in (by omega) (by omega)
  have e3 : (nI k).toNatClampNeg = k := nl_cl (by omega)
  have e4 : w' 8 k = nI (T k) := by rw [h9 8 (by omega) (by omega) (by omega) (by omega)]; exact hT1
  have hik := idx_le T k
  obtain ⟨s, d, s', d', a1, a2, a3⟩ := scn_step hWF hk
  have hlt := bst_len k s d a1
  by_cases c59 : T k = 59
  · have hb : bst T (k + 1) = bst T k := by rw [bst_s, if_neg (by omega), if_neg (by omega)]
    have hi : idx T (k + 1) = idx T k := by rw [idx_s, c59]; rfl
    have hd : dgN (T k) = false := by rw [c59]; rfl
    refine Ok.eq (a := .inl (encS T (bst T k), nI k + 1, upd2 (upd2 w' (40 + r) k (nI (T k))) (32 + r) 5 (w' (32 + r) 5 + 1))) ?_ ?_
    · simp only [f_Rule_take_L22, e1, e2, e3, e4, nar_c hT2, gd_t, nmd_eq, ↓reduceIte, qe_59 (show T k < 2147483648 by omega), if_pos c59]
      rw [upd2_n (show 32 + r ≠ 40 + r by omega)]
    · refine And.intro (nI_1 k) ?_
      dsimp only
      refine ⟨⟨?_, ?_, ?_, ?_⟩, ?_, ?_, ?_, ?_, ?_, ?_⟩
      · rw [upd2_at, if_pos rfl, if_neg (by decide), upd2_n (by omega)]; exact h1
      · rw [upd2_at, if_pos rfl, if_neg (by decide), upd2_n (by omega), hi]; exact h2
      · rw [upd2_at, if_pos rfl, if_pos rfl, h3, nI_1]
        show _ = nI (cntS (fun j => decide (T j = 59)) k + (if decide (T k = 59) = true then 1 else 0))
        rw [decide_eq_true c59, if_pos rfl]
      · rw [hb]
      · intro j hj
        rw [upd2_n (by omega), upd2_at, if_pos rfl]
        by_cases c : j = k
        · rw [if_pos c, c]
        · rw [if_neg c]; exact h4 j (by omega)
      · intro j hj hs
        have : j ≠ k := fun e => by rw [e, c59] at hs; cases hs
        rw [upd2_n (by omega), upd2_n (by omega)]; exact h5 j (by omega) hs
      · intro p rest hp
        rw [hb] at hp
        rw [upd2_n (by omega), upd2_n (by omega)]; exact h6 p rest hp
      · intro j hj hs
        have : j ≠ k := fun e => by rw [e, c59] at hs; cases hs
        rw [upd2_n (by omega), upd2_n (by omega)]; exact h7 j (by omega) hs
      · intro j hj hs
        have : j ≠ k := fun e => by rw [e, c59] at hs; cases hs
        rw [upd2_n (by omega), upd2_n (by omega), numE_s hWF hs (by omega) hk hd]; exact h8 j (by omega) hs
      · intro i g1 g2 g3 g4
        rw [upd2_n g1, upd2_n g2]; exact h9 i g1 g2 g3 g4
  cases cd : dgN (T k) with
  | true =>
    obtain ⟨j0, hj0, hk0, hi0⟩ : ∃ j0, T j0 = 101 ∧ (k = j0 + 1 ∨ (k = j0 + 2 ∧ dgN (T (j0 + 1)) = true)) ∧ idx T k = idx T j0 + 1 := by
      rcases tst_d cd a2 with rfl | rfl
      · obtain ⟨j, rfl, hj⟩ := st3 a1
        exact ⟨j, hj, Or.inl rfl, by rw [idx_s, hj]; rfl⟩
      · obtain ⟨j, rfl, hj, hj2⟩ := st4 a1
        refine ⟨j, hj, Or.inr ⟨rfl, hj2⟩, ?_⟩
        rw [show j + 2 = (j + 1) + 1 from rfl, idx_s, stp_dg hj2, idx_s, hj]; rfl
    have hjk : j0 < k := by omega
    have hs0 : stp (T j0) = true := by rw [hj0]; rfl
    have hge : 48 ≤ T k ∧ T k ≤ 57 := by unfold dgN at cd; simpa using cd
    have c40 : ¬ T k = 40 := by omega
    have c41 : ¬ T k = 41 := by omega
    have hb : bst T (k + 1) = bst T k := by rw [bst_s, if_neg c40, if_neg c41]
    have hi : idx T (k + 1) = idx T k := by rw [idx_s, stp_dg cd]; rfl
    have hnew : (10 : Int32) * nI (numE T j0 k) + (nI (T k) - 48) = nI (numE T j0 (k + 1)) := by
      have q1 : nI (T k) - (48 : Int32) = nI (T k - 48) := pk_sub hge.1
      have q2 : (10 : Int32) * nI (numE T j0 k) = nI (10 * numE T j0 k) := pk_mul 10 _
      rw [q1, q2, nI_add]
      congr 1
      unfold numE
      rcases hk0 with rfl | ⟨rfl, hd1⟩
      · rw [if_pos (by omega), if_neg (by omega), if_pos (by omega)]; omega
      · rw [if_neg (by omega), if_pos (by omega), if_neg (by omega), if_neg (by omega)]
        unfold shr
        rw [if_pos cd]
    refine Ok.eq (a := .inl (encS T (bst T k), nI k + 1, upd2 (upd2 w' (40 + r) k (nI (T k))) (56 + r) (idx T j0) (nI (numE T j0 (k + 1))))) ?_ ?_
    · have f1 : w' (32 + r) 4 = nI (idx T j0 + 1) := by rw [h2, hi0]
      have f2 : ¬ nI (idx T j0 + 1) ≤ (0 : Int32) := by rw [qa_0 (by omega)]; omega
      have f3 : inb (nI (idx T j0)) 24 = true := nl_in (by omega) (by omega)
      have f4 : (nI (idx T j0)).toNatClampNeg = idx T j0 := nl_cl (by omega)
      have f5 : ∀ v, upd2 w' (40 + r) k v (32 + r) = w' (32 + r) := fun v => upd2_n (by omega)
      have f6 : ∀ v, upd2 w' (40 + r) k v (56 + r) = w' (56 + r) := fun v => upd2_n (by omega)
      have f7 : w' (56 + r) (idx T j0) = nI (numE T j0 k) := h8 j0 hjk hj0
      simp only [f_Rule_take_L22, e1, e2, e3, e4, nar_c hT2, gd_t, nmd_eq, bnd_eq, ↓reduceIte, qe_59 (show T k < 2147483648 by omega), if_neg c59, f_digit hT2, cd, tI0, Bool.true_eq_false, f1, f2, f3, f4, f5, f6, f7, nI_pred, hnew]
    · refine And.intro (nI_1 k) ?_
      dsimp only
      refine ⟨⟨?_, ?_, ?_, ?_⟩, ?_, ?_, ?_, ?_, ?_, ?_⟩
      · rw [upd2_n (by omega), upd2_n (by omega)]; exact h1
      · rw [upd2_n (by omega), upd2_n (by omega), hi]; exact h2
      · rw [upd2_n (by omega), upd2_n (by omega), h3]
        show _ = nI (cntS (fun j => decide (T j = 59)) k + (if decide (T k = 59) = true then 1 else 0))
        rw [decide_eq_false c59, if_neg (by decide)]; rfl
      · rw [hb]
      · intro j hj
        rw [upd2_n (by omega), upd2_at, if_pos rfl]
        by_cases c : j = k
        · rw [if_pos c, c]
        · rw [if_neg c]; exact h4 j (by omega)
      · intro j hj hs
        have : j ≠ k := fun e => by rw [e, stp_dg cd] at hs; cases hs
        rw [upd2_n (by omega), upd2_n (by omega)]; exact h5 j (by omega) hs
      · intro p rest hp
        rw [hb] at hp
        have hm := bst_mem k p (hp.subset List.mem_cons_self)
        have hne : idx T p ≠ idx T j0 := idx_ne (fun e => by rw [e, hj0] at hm; omega) (by rw [hm.2]; rfl) hs0
        rw [upd2_at, if_pos rfl, if_neg hne, upd2_n (by omega)]; exact h6 p rest hp
      · intro j hj hs
        have hjk2 : j ≠ k := fun e => by rw [e] at hs; omega
        have hne : idx T j ≠ idx T j0 := idx_ne (fun e => by rw [e, hj0] at hs; omega) (by rw [hs]; rfl) hs0
        obtain ⟨p, st, g1, g2⟩ := h7 j (by omega) hs
        exact ⟨p, st, g1, by rw [upd2_at, if_pos rfl, if_neg hne, upd2_n (by omega)]; exact g2⟩
      · intro j hj hs
        have hjk2 : j ≠ k := fun e => by rw [e] at hs; omega
        by_cases c : j = j0
        · rw [upd2_at, if_pos rfl, if_pos (by rw [c]), c]
        · have hne : idx T j ≠ idx T j0 := idx_ne c (by rw [hs]; rfl) hs0
          rw [upd2_at, if_pos rfl, if_neg hne, upd2_n (by omega), numE_d hWF hs (by omega) hk cd hj0 hk0 c]; exact h8 j (by omega) hs
      · intro i g1 g2 g3 g4
        rw [upd2_n g4, upd2_n g2]; exact h9 i g1 g2 g3 g4
  | false =>
    have hs0 : stp (T k) = true := by unfold stp; rw [cd, decide_eq_false c59]; rfl
    have hi : idx T (k + 1) = idx T k + 1 := by rw [idx_s, hs0]; rfl
    have f1 : nI (idx T k) < (24 : Int32) := by rw [qc_24 (by omega)]; omega
    have f3 : inb (nI (idx T k)) 24 = true := nl_in (by omega) (by omega)
    have f4 : (nI (idx T k)).toNatClampNeg = idx T k := nl_cl (by omega)
    have f5 : ∀ v, upd2 w' (40 + r) k v (32 + r) = w' (32 + r) := fun v => upd2_n (by omega)
    have hnew : ∀ j, j < k → stp (T j) = true → idx T j ≠ idx T k := fun j hj hs => by have := idx_lt hj hs; omega
    -- the number that the step gets
    let t0 : Int32 := if T k = 40 ∨ T k = 41 then encS T (bst T k) else 0
    have ht0 : t0 = if T k = 40 ∨ T k = 41 then encS T (bst T k) else 0 := rfl
    refine Ok.eq (a := .inl (encS T (bst T (k + 1)), nI k + 1, upd2 (upd2 (upd2 (upd2 w' (40 + r) k (nI (T k))) (32 + r) 4 (w' (32 + r) 4 + 1)) (48 + r) (idx T k) (nI (T k))) (56 + r) (idx T k) t0)) ?_ ?_
    · simp only [f_Rule_take_L22, e1, e2, e3, e4, nar_c hT2, gd_t, nmd_eq, bnd_eq, ↓reduceIte, qe_59 (show T k < 2147483648 by omega), if_neg c59, f_digit hT2, cd, tI0, f_Rule_addStep, f5, h2, f1, f3, f4, qe_40 (show T k < 2147483648 by omega), qe_41 (show T k < 2147483648 by omega), f_Rule_addStep_b47, f_Rule_addStep_b52]
      by_cases c40 : T k = 40
      · have hb : bst T (k + 1) = k :: bst T k := by rw [bst_s, if_pos c40]
        simp only [ht0, c40, true_or, ↓reduceIte, bnd_eq, hb]
        rfl
      · by_cases c41 : T k = 41
        · have hb : bst T (k + 1) = (bst T k).tail := by rw [bst_s, if_neg c40, if_pos c41]
          rw [c41] at a2
          obtain ⟨p, st, hps⟩ : ∃ p st, bst T k = p :: st := by
            cases hq : bst T k with
            | nil => rw [hq] at hlt; have := (tst_41 a2).1; rw [← hlt] at this; cases this
            | cons p st => exact ⟨p, st, rfl⟩
          have hm := bst_mem k p (by rw [hps]; exact List.mem_cons_self)
          have hip := idx_le T p
          have g1 : ¬ nI (idx T p) < (0 : Int32) := nl_neg (by omega)
          have g2 : inb (nI (idx T p)) 24 = true := nl_in (by omega) (by omega)
          have g3 : (nI (idx T p)).toNatClampNeg = idx T p := nl_cl (by omega)
          have g4 : idx T p ≠ idx T k := hnew p hm.1 (by rw [hm.2]; rfl)
          have g5 : w' (56 + r) (idx T p) = encS T st := h6 p st (by rw [hps]; exact List.suffix_refl _)
          have g6 : ∀ (u : Wt) (v : Int32), upd2 u (56 + r) (idx T k) v (56 + r) (idx T p) = u (56 + r) (idx T p) := fun u v => by rw [upd2_at, if_pos rfl, if_neg g4]
          have g7 : encS T (bst T k) = nI (idx T p) := by rw [hps]; rfl
          have g8 : encS T (bst T (k + 1)) = encS T st := by rw [hb, hps]; rfl
          simp only [ht0, c41, or_true, ↓reduceIte, bnd_eq, g7, g1, g2, g3, g6, g8, gd_t, show ¬ (41 : Nat) = 40 from by decide]
          rw [upd2_n (by omega), upd2_n (by omega), upd2_n (by omega), g5]
        · have hb : bst T (k + 1) = bst T k := by rw [bst_s, if_neg c40, if_neg c41]
          simp only [ht0, c40, c41, or_false, ↓reduceIte, bnd_eq, hb]
    · have K : ∀ i, i ≠ 32 + r → i ≠ 40 + r → i ≠ 48 + r → i ≠ 56 + r → upd2 (upd2 (upd2 (upd2 w' (40 + r) k (nI (T k))) (32 + r) 4 (w' (32 + r) 4 + 1)) (48 + r) (idx T k) (nI (T k))) (56 + r) (idx T k) t0 i = w' i := fun i g1 g2 g3 g4 => by rw [upd2_n g4, upd2_n g3, upd2_n g1, upd2_n g2]
      have K32 : ∀ j, j ≠ 4 → upd2 (upd2 (upd2 (upd2 w' (40 + r) k (nI (T k))) (32 + r) 4 (w' (32 + r) 4 + 1)) (48 + r) (idx T k) (nI (T k))) (56 + r) (idx T k) t0 (32 + r) j = w' (32 + r) j := fun j g => by rw [upd2_n (by omega), upd2_n (by omega), upd2_at, if_pos rfl, if_neg g, upd2_n (by omega)]
      have K56 : ∀ j, j ≠ idx T k → upd2 (upd2 (upd2 (upd2 w' (40 + r) k (nI (T k))) (32 + r) 4 (w' (32 + r) 4 + 1)) (48 + r) (idx T k) (nI (T k))) (56 + r) (idx T k) t0 (56 + r) j = w' (56 + r) j := fun j g => by rw [upd2_at, if_pos rfl, if_neg g, upd2_n (by omega), upd2_n (by omega), upd2_n (by omega)]
      have K56k : upd2 (upd2 (upd2 (upd2 w' (40 + r) k (nI (T k))) (32 + r) 4 (w' (32 + r) 4 + 1)) (48 + r) (idx T k) (nI (T k))) (56 + r) (idx T k) t0 (56 + r) (idx T k) = t0 := by rw [upd2_at, if_pos rfl, if_pos rfl]
      refine And.intro (nI_1 k) ?_
      dsimp only
      refine ⟨⟨?_, ?_, ?_, rfl⟩, ?_, ?_, ?_, ?_, ?_, ?_⟩
      · exact (K32 3 (by decide)).trans h1
      · show upd2 _ _ _ _ (32 + r) 4 = _
        rw [upd2_n (by omega), upd2_n (by omega), upd2_at, if_pos rfl, if_pos rfl, h2, hi, nI_1]
      · refine (K32 5 (by decide)).trans ?_
        rw [h3]
        show _ = nI (cntS (fun j => decide (T j = 59)) k + (if decide (T k = 59) = true then 1 else 0))
        rw [decide_eq_false c59, if_neg (by decide)]; rfl
      · intro j hj
        show upd2 _ _ _ _ (40 + r) j = _
        rw [upd2_n (by omega), upd2_n (by omega), upd2_n (by omega), upd2_at, if_pos rfl]
        by_cases c : j = k
        · rw [if_pos c, c]
        · rw [if_neg c]; exact h4 j (by omega)
      · intro j hj hs
        show upd2 _ _ _ _ (48 + r) (idx T j) = _
        rw [upd2_n (by omega), upd2_at, if_pos rfl]
        by_cases c : j = k
        · rw [c, if_pos rfl]
        · rw [if_neg (hnew j (by omega) hs), upd2_n (by omega), upd2_n (by omega)]; exact h5 j (by omega) hs
      · intro p rest hp
        by_cases c40 : T k = 40
        · have hb : bst T (k + 1) = k :: bst T k := by rw [bst_s, if_pos c40]
          rw [hb] at hp
          rcases List.suffix_cons_iff.mp hp with e | e
          · obtain ⟨rfl, rfl⟩ := List.cons.inj e
            refine K56k.trans ?_
            rw [ht0, if_pos (Or.inl c40)]
          · have hm := bst_mem k p (e.subset List.mem_cons_self)
            exact (K56 _ (hnew p hm.1 (by rw [hm.2]; rfl))).trans (h6 p rest e)
        · have hb : bst T (k + 1) <:+ bst T k := by
            rw [bst_s, if_neg c40]
            split
            · exact List.tail_suffix _
            · exact List.suffix_refl _
          have e := hp.trans hb
          have hm := bst_mem k p (e.subset List.mem_cons_self)
          exact (K56 _ (hnew p hm.1 (by rw [hm.2]; rfl))).trans (h6 p rest e)
      · intro j hj hs
        by_cases c : j = k
        · subst c
          rw [hs] at a2
          obtain ⟨p, st, hps⟩ : ∃ p st, bst T j = p :: st := by
            cases hq : bst T j with
            | nil => rw [hq] at hlt; have := (tst_41 a2).1; rw [← hlt] at this; cases this
            | cons p st => exact ⟨p, st, rfl⟩
          refine ⟨p, st, hps, K56k.trans ?_⟩
          rw [ht0, if_pos (Or.inr hs), hps]; rfl
        · obtain ⟨p, st, g1, g2⟩ := h7 j (by omega) hs
          exact ⟨p, st, g1, (K56 _ (hnew j (by omega) (by rw [hs]; rfl))).trans g2⟩
      · intro j hj hs
        by_cases c : j = k
        · subst c
          refine K56k.trans ?_
          rw [ht0, if_neg (by omega)]
          unfold numE
          rw [if_pos (by omega)]; rfl
        · refine (K56 _ (hnew j (by omega) (by rw [hs]; rfl))).trans ?_
          rw [numE_s hWF hs (by omega) hk cd]; exact h8 j (by omega) hs
      · intro i g1 g2 g3 g4
        exact (K i g1 g2 g3 g4).trans (h9 i g1 g2 g3 g4)
theorem f_take {w : Wt} {T : Nat → Nat} {len r : Nat} (hr : r < 8) (hlen : len ≤ 24) (hWF : WF T len) (hw : w 7 1 = nI len) (hT : ∀ k, k < len → w 8 k = nI (T k) ∧ T k < 65536) : Ok (f_Rule_take r w) (fun w' => RuC w' r T len ∧ ∀ i, i ≠ 32 + r → i ≠ 40 + r → i ≠ 48 + r → i ≠ 56 + r → w' i = w i) := by
  have key : Ok (lp (f_Rule_take_L22 r) FU ((-1 : Int32), (0 : Int32), upd2 (upd2 (upd2 w (32 + r) 3 (w 7 1)) (32 + r) 4 0) (32 + r) 5 0)) (fun w' => RuC w' r T len ∧ ∀ i, i ≠ 32 + r → i ≠ 40 + r → i ≠ 48 + r → i ≠ 56 + r → w' i = w i) := by
    refine Ok.count len (fun k z => z.2.1 = nI k ∧ CI w r T len k z.1 z.2.2) (fun k z hk h => ?_) (fun z h => ?_) len FU 0 _ (by omega) (by show _ < 100000; omega) ⟨rfl, ⟨?_, ?_, ?_, rfl⟩, fun j hj => by omega, fun j hj => by omega, fun p rest hp => ?_, fun j hj => by omega, fun j hj => by omega, fun i g1 g2 g3 g4 => ?_⟩
    · obtain ⟨inn, l, w'⟩ := z
      obtain ⟨rfl, h⟩ := h
      exact Ok.mono (take_step hr hlen hWF hT hk h) (fun x hx => by cases x with | inl s => exact hx | inr s => exact hx.elim)
    · obtain ⟨inn, l, w'⟩ := z
      obtain ⟨rfl, ⟨h1, h2, h3, h0⟩, h4, h5, h6, h7, h8, h9⟩ := h
      dsimp only at h1 h2 h3 h4 h5 h6 h7 h8 h9
      have e1 : w' (32 + r) 3 ≤ nI len := by rw [h1, nl_le (by omega) (by omega)]; omega
      refine Ok.eq (a := .inr w') (by simp only [f_Rule_take_L22, e1, ↓reduceIte]) ⟨⟨⟨h1, h2, h3⟩, h4, h5, h7, fun j hj hs => ?_⟩, h9⟩
      obtain ⟨d, b1, b2, b3, b4, b5⟩ := e_nx hWF hj hs
      rw [h8 j hj hs]
      unfold numE
      rw [if_neg (by omega), if_neg (by omega)]
    · dsimp only; rw [upd2_at, if_pos rfl, if_neg (by decide), upd2_at, if_pos rfl, if_neg (by decide), upd2_at, if_pos rfl, if_pos rfl]; exact hw
    · dsimp only; rw [upd2_at, if_pos rfl, if_neg (by decide), upd2_at, if_pos rfl, if_pos rfl]; rfl
    · dsimp only; rw [upd2_at, if_pos rfl, if_pos rfl]; rfl
    · have := hp.length_le; simp [bst] at this
    · dsimp only; rw [upd2_n g1, upd2_n g1, upd2_n g1]
  obtain ⟨r9, e, hr9⟩ := key
  unfold f_Rule_take
  simp only [nmd_eq]
  rw [e]
  exact ⟨r9, rfl, hr9⟩
theorem m_write {m : Wt} {T : Nat → Nat} {len r : Nat} (hr : r < 8) (hlen : len ≤ 24) (hw : m 0 8 = nI len) (hT : ∀ k, k < len → m 6 k = nI (T k)) : Ok (m_writes (nI r) m) (fun m' => RuM m' r T len ∧ (∀ i, i ≠ 7 → i ≠ 8 → m' i = m i) ∧ (∀ k, k ≠ r → m' 8 k = m 8 k) ∧ (∀ k, k < 24 * r ∨ 24 * r + 24 ≤ k → m' 7 k = m 7 k)) := by
  have er1 : inb (nI r) 8 = true := nl_in (by omega) (by omega)
  have er2 : (nI r).toNatClampNeg = r := nl_cl (by omega)
  have key : Ok (lp (m_writes_L12 (nI r)) FU ((0 : Int32), upd2 m 8 r (nI len))) (fun m' => RuM m' r T len ∧ (∀ i, i ≠ 7 → i ≠ 8 → m' i = m i) ∧ (∀ k, k ≠ r → m' 8 k = m 8 k) ∧ (∀ k, k < 24 * r ∨ 24 * r + 24 ≤ k → m' 7 k = m 7 k)) := by
    refine Ok.count len (fun k z => z.1 = nI k ∧ z.2 8 r = nI len ∧ (∀ j, j < k → z.2 7 (24 * r + j) = nI (T j)) ∧ (∀ i, i ≠ 7 → i ≠ 8 → z.2 i = m i) ∧ (∀ k, k ≠ r → z.2 8 k = m 8 k) ∧ (∀ k, k < 24 * r ∨ 24 * r + 24 ≤ k → z.2 7 k = m 7 k)) (fun k z hk h => ?_) (fun z h => ?_) len FU 0 _ (by omega) (by show _ < 100000; omega) ⟨rfl, ?_, fun j hj => by omega, fun i g1 g2 => upd2_n g2, fun k hk => ?_, fun k hk => ?_⟩
    · obtain ⟨l, m'⟩ := z
      obtain ⟨rfl, h1, h2, h3, h4, h5⟩ := h
      dsimp only at h1 h2 h3 h4 h5
      have e1 : ¬ m' 0 8 ≤ nI k := by rw [h3 0 (by decide) (by decide), hw, nl_le (by omega) (by omega)]; omega
      have e2 : inb (nI k) 24 = true := nl_in (by omega) (by omega)
      have e3 : (nI k).toNatClampNeg = k := nl_cl (by omega)
      have e4 : (24 : Int32) * nI r + nI k = nI (24 * r + k) := by
        have q2 : (24 : Int32) * nI r = nI (24 * r) := pk_mul 24 _
        rw [q2, nI_add]
      have e5 : inb (nI (24 * r + k)) 192 = true := nl_in (by omega) (by omega)
      have e6 : (nI (24 * r + k)).toNatClampNeg = 24 * r + k := nl_cl (by omega)
      have e7 : m' 6 k = nI (T k) := by rw [h3 6 (by decide) (by decide)]; exact hT k hk
      refine Ok.eq (a := .inl (nI k + 1, upd2 m' 7 (24 * r + k) (nI (T k)))) (by simp only [m_writes_L12, e1, e2, e3, e4, e5, e6, e7, gd_t, nmd_eq, ↓reduceIte]) (And.intro (nI_1 k) ⟨?_, ?_, ?_, ?_, ?_⟩)
      · dsimp only; rw [upd2_n (by decide)]; exact h1
      · intro j hj
        dsimp only
        rw [upd2_at, if_pos rfl]
        by_cases c : j = k
        · rw [if_pos (by omega), c]
        · rw [if_neg (by omega)]; exact h2 j (by omega)
      · intro i g1 g2; dsimp only; rw [upd2_n g1]; exact h3 i g1 g2
      · intro k hk; dsimp only; rw [upd2_n (by decide)]; exact h4 k hk
      · intro k2 hk2
        dsimp only
        rw [upd2_at, if_pos rfl, if_neg (by omega)]; exact h5 k2 hk2
    · obtain ⟨l, m'⟩ := z
      obtain ⟨rfl, h1, h2, h3, h4, h5⟩ := h
      dsimp only at h1 h2 h3 h4 h5
      have e1 : m' 0 8 ≤ nI len := by rw [h3 0 (by decide) (by decide), hw, nl_le (by omega) (by omega)]; omega
      exact Ok.eq (a := .inr m') (by simp only [m_writes_L12, e1, ↓reduceIte]) ⟨⟨h1, h2⟩, h3, h4, h5⟩
    · dsimp only; rw [upd2_at, if_pos rfl, if_pos rfl]
    · dsimp only; rw [upd2_at, if_pos rfl, if_neg hk]
    · dsimp only; rw [upd2_n (by decide)]
  obtain ⟨r9, e, hr9⟩ := key
  unfold m_writes
  rw [er1, er2, gd_t, nmd_eq, hw, e]
  exact ⟨r9, rfl, hr9⟩
theorem m_cmds {m : Wt} {T : Nat → Nat} {len r : Nat} (hr : r < 8) (hlen : len ≤ 24) (h : RuM m r T len) (hT : ∀ k, k < len → T k < 65536) : lp (m_commands_L23 (nI r) m) FU ((0 : Int32), (0 : Int32)) = some (nI (cntS (fun j => decide (T j = 59)) len)) := by
  have er1 : inb (nI r) 8 = true := nl_in (by omega) (by omega)
  have er2 : (nI r).toNatClampNeg = r := nl_cl (by omega)
  refine Ok.eqn (Ok.count len (fun k z => z = (nI (cntS (fun j => decide (T j = 59)) k), nI k)) (fun k z hk e => ?_) (fun z e => ?_) len FU 0 _ (by omega) (by show _ < 100000; omega) rfl)
  · subst e
    have e1 : ¬ m 8 r ≤ nI k := by rw [h.1, nl_le (by omega) (by omega)]; omega
    have e4 : (24 : Int32) * nI r + nI k = nI (24 * r + k) := by
      have q2 : (24 : Int32) * nI r = nI (24 * r) := pk_mul 24 _
      rw [q2, nI_add]
    have e5 : inb (nI (24 * r + k)) 192 = true := nl_in (by omega) (by omega)
    have e6 : (nI (24 * r + k)).toNatClampNeg = 24 * r + k := nl_cl (by omega)
    have hT2 := hT k hk
    refine Ok.eq (a := .inl (nI (cntS (fun j => decide (T j = 59)) (k + 1)), nI (k + 1))) ?_ rfl
    by_cases c : T k = 59 <;> simp [m_commands_L23, er1, er2, e1, e4, e5, e6, h.2 k hk, gd_t, nmd_eq, qe_59 (show T k < 2147483648 by omega), c, cntS, nI_1, qe_59]
  · subst e
    have e1 : m 8 r ≤ nI len := by rw [h.1, nl_le (by omega) (by omega)]; omega
    exact Ok.eq (a := .inr _) (by simp only [m_commands_L23, er1, er2, gd_t, e1, ↓reduceIte]) rfl

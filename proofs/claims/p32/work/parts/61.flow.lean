/-! THE ROWS OF A RULE, done step by step on a picture: where it stands, who stood at each open bracket's pass, the count; what bounds it -/
theorem bst_up {T : Nat → Nat} : ∀ n p b rest, p ≤ n → bst T p = b :: rest → bst T b = rest ∧ b < p ∧ T b = 40 := by
  intro n
  induction n with
  | zero => intro p b rest h1 h2; rw [show p = 0 by omega] at h2; cases h2
  | succ n ih =>
    intro p b rest h1 h2
    cases p with
    | zero => cases h2
    | succ p =>
      rw [bst_s] at h2
      by_cases c1 : T p = 40
      · rw [if_pos c1] at h2
        obtain ⟨rfl, rfl⟩ := List.cons.inj h2
        exact ⟨rfl, by omega, c1⟩
      · rw [if_neg c1] at h2
        by_cases c2 : T p = 41
        · rw [if_pos c2] at h2
          cases hq : bst T p with
          | nil => rw [hq] at h2; cases h2
          | cons x r =>
            rw [hq] at h2
            have h3 : r = b :: rest := h2
            subst h3
            obtain ⟨g1, g2, g3⟩ := ih p x _ (by omega) hq
            obtain ⟨f1, f2, f3⟩ := ih x b rest (by omega) g1
            exact ⟨f1, by omega, f3⟩
        · rw [if_neg c2] at h2
          obtain ⟨f1, f2, f3⟩ := ih p b rest (by omega) h2
          exact ⟨f1, by omega, f3⟩
def nx (T : Nat → Nat) (p : Nat) : Nat := if T p = 101 then (if dgN (T (p + 2)) = true then p + 4 else p + 3) else p + 2
theorem pl_cls {x : Nat} (h : plN x = true) : isT x ∨ isB x ∨ isG x := by
  unfold plN at h
  rw [decide_eq_true_eq] at h
  unfold isT isB isG
  omega
theorem pl_ne {x : Nat} (h : plN x = true) : x ≠ 40 ∧ x ≠ 41 ∧ x ≠ 59 ∧ x ≠ 101 ∧ dgN x = false := by
  rcases cls x with ⟨rfl, h5, h6⟩ | ⟨rfl, h5, h6⟩ | ⟨rfl, h5, h6⟩ | ⟨rfl, h5, h6⟩ | ⟨h1, h2, h3, h4, h5, h6⟩ | ⟨h1, h2, h3, h4, h5, h6⟩ | ⟨h1, h2, h3, h4, h5, h6⟩ <;> rw [h5] at h <;> first | (cases h; done) | exact ⟨h2, h3, h1, h4, h6⟩
theorem dg_ne {x : Nat} (h : dgN x = true) : x ≠ 40 ∧ x ≠ 41 ∧ x ≠ 59 := by
  unfold dgN at h
  rw [Bool.and_eq_true, decide_eq_true_eq, decide_eq_true_eq] at h
  omega
/-- what may stand where a statement begins, and what follows -/
theorem st_kind {T : Nat → Nat} {len p s d : Nat} (h : WF T len) (hp : p < len) (e : scn T p = some (s, d)) (hs : s ≤ 1) :
    (T p = 40 ∧ scn T (p + 1) = some (0, d + 1)) ∨ (T p = 41 ∧ 0 < d ∧ scn T (p + 1) = some (1, d - 1)) ∨ ((isT (T p) ∨ isB (T p) ∨ isG (T p)) ∧ T p ≠ 40 ∧ T p ≠ 41 ∧ T p ≠ 59 ∧ dgN (T p) = false ∧ scn T (nx T p) = some (1, d) ∧ nx T p ≤ len ∧ p + 2 ≤ nx T p ∧ bst T (nx T p) = bst T p ∧ idx T (nx T p) = idx T p + 1) := by
  obtain ⟨s0, d0, s', d', a1, a2, a3⟩ := scn_step h hp
  rw [e] at a1
  simp only [Option.some.injEq, Prod.mk.injEq] at a1
  obtain ⟨rfl, rfl⟩ := a1
  have hst : ∀ x, x ≠ 59 → dgN x = false → stp x = true := fun x h1 h2 => by unfold stp; rw [h2, decide_eq_false h1]; rfl
  rcases cls (T p) with ⟨g, h5, h6⟩ | ⟨g, h5, h6⟩ | ⟨g, h5, h6⟩ | ⟨g, h5, h6⟩ | ⟨h1, h2, h3, h4, h5, h6⟩ | ⟨h1, h2, h3, h4, h5, h6⟩ | ⟨h1, h2, h3, h4, h5, h6⟩
  · exfalso
    unfold tst at a2
    rw [if_neg (by omega), if_neg (by omega), if_neg (by omega), if_neg (by omega), if_neg (by omega), if_neg (by omega), h5] at a2
    cases a2
  · left
    refine ⟨g, ?_⟩
    rw [a3]
    unfold tst at a2
    rw [if_neg (by omega), if_neg (by omega), if_neg (by omega), if_neg (by omega), if_pos g] at a2
    exact a2.symm
  · right; left
    unfold tst at a2
    rw [if_neg (by omega), if_neg (by omega), if_neg (by omega), if_pos g] at a2
    by_cases c : s = 1 ∧ 0 < d
    · rw [if_pos c] at a2
      exact ⟨g, c.2, by rw [a3]; exact a2.symm⟩
    · rw [if_neg c] at a2; cases a2
  · right; right
    have hd' := tst_oth (by omega) (by omega) a2
    subst hd'
    obtain ⟨d2, b1, b2, b3, b4, b5⟩ := e_nx h hp g
    rw [a3] at b1
    simp only [Option.some.injEq, Prod.mk.injEq] at b1
    obtain ⟨-, rfl⟩ := b1
    refine ⟨Or.inr (Or.inr (Or.inr (Or.inl g))), by omega, by omega, by omega, h6, ?_⟩
    have q1 := dg_ne b4
    have hb2 : bst T (p + 2) = bst T p := by rw [show p + 2 = (p + 1) + 1 from rfl, bst_s, if_neg q1.1, if_neg q1.2.1, bst_s, if_neg (by omega), if_neg (by omega)]
    have hi2 : idx T (p + 2) = idx T p + 1 := by rw [show p + 2 = (p + 1) + 1 from rfl, idx_s, stp_dg b4, idx_s, g]; rfl
    unfold nx
    rw [if_pos g]
    rcases b5 with ⟨f1, f2⟩ | ⟨f1, f2, f3, f4, f5⟩
    · have hnd : ¬ dgN (T (p + 2)) = true := by rw [f1]; decide
      rw [if_neg hnd]
      refine ⟨f2, by omega, by omega, ?_, ?_⟩
      · rw [show p + 3 = (p + 2) + 1 from rfl, bst_s, if_neg (by omega), if_neg (by omega)]; exact hb2
      · rw [show p + 3 = (p + 2) + 1 from rfl, idx_s, f1, hi2]; rfl
    · rw [if_pos f1]
      have q2 := dg_ne f1
      refine ⟨f5, by omega, by omega, ?_, ?_⟩
      · rw [show p + 4 = (p + 3) + 1 from rfl, bst_s, if_neg (by omega), if_neg (by omega), show p + 3 = (p + 2) + 1 from rfl, bst_s, if_neg q2.1, if_neg q2.2.1]; exact hb2
      · rw [show p + 4 = (p + 3) + 1 from rfl, idx_s, f3, show p + 3 = (p + 2) + 1 from rfl, idx_s, stp_dg f1, hi2]; rfl
  · right; right
    have q := pl_ne h5
    have hd' := tst_oth q.1 q.2.1 a2
    subst hd'
    obtain ⟨d2, b1, b2, b3, b4⟩ := p_nx h hp h5
    rw [a3] at b1
    simp only [Option.some.injEq, Prod.mk.injEq] at b1
    obtain ⟨-, rfl⟩ := b1
    refine ⟨pl_cls h5, h2, h3, h1, h6, ?_⟩
    unfold nx
    rw [if_neg h4]
    refine ⟨b4, by omega, by omega, ?_, ?_⟩
    · rw [show p + 2 = (p + 1) + 1 from rfl, bst_s, if_neg (by omega), if_neg (by omega), bst_s, if_neg h2, if_neg h3]
    · rw [show p + 2 = (p + 1) + 1 from rfl, idx_s, b3, idx_s, hst _ h1 h6]; rfl
  · exfalso
    rcases tst_d h6 a2 with rfl | rfl <;> omega
  · exfalso
    unfold tst at a2
    rw [if_neg (by omega), if_neg (by omega), if_neg (by omega), if_neg h3, if_neg h2, if_neg h4, h5] at a2
    cases a2
/-- sums of weights -/
def sw (wt : Nat → Nat) : Nat → Nat
  | 0 => 0
  | k + 1 => sw wt k + wt k
theorem sw_mono {wt : Nat → Nat} {j k : Nat} (h : j ≤ k) : sw wt j ≤ sw wt k := by
  obtain ⟨d, rfl⟩ : ∃ d, k = j + d := ⟨k - j, by omega⟩
  induction d with
  | zero => exact Nat.le_refl _
  | succ d ih =>
    have := ih (by omega)
    show _ ≤ sw wt (j + d) + wt (j + d)
    omega
def flg : List Nat → Nat → Nat
  | [], _ => 0
  | s :: r, S => (if s = S then 0 else 1) + flg r S
theorem flg_le : ∀ (ss : List Nat) (S : Nat), flg ss S ≤ ss.length := by
  intro ss
  induction ss with
  | nil => intro S; exact Nat.le_refl _
  | cons s r ih => intro S; unfold flg; rw [List.length_cons]; have := ih S; split <;> omega
abbrev Cf : Type := Nat × List Nat × CS
section FLOW
variable {rd : Nat → Nat → Nat} {ln : Nat → Nat} {l : List Nat} {T : Nat → Nat} {len n0 : Nat}
def stS (rd : Nat → Nat → Nat) (ln : Nat → Nat) (l : List Nat) (T : Nat → Nat) (c : Cf) : Cf :=
  if T c.1 = 40 then (c.1 + 1, c.2.2.1.1 :: c.2.1, c.2.2)
  else if T c.1 = 41 then (match c.2.1 with
    | [] => (c.1 + 1, [], c.2.2)
    | s0 :: sr => if s0 = c.2.2.1.1 then (c.1 + 1, sr, c.2.2) else ((bst T c.1).headD 0 + 1, c.2.2.1.1 :: sr, c.2.2))
  else (nx T c.1, c.2.1, obS rd ln l (T c.1) (shr T c.1) c.2.2)
def going (len : Nat) (c : Cf) : Prop := c.1 < len ∧ 0 < c.2.2.1.2.2.1
def cB (T : Nat → Nat) (len : Nat) : Nat := cntS (fun k => decide (T k = 40)) len
def gB (x : Nat) : Bool := decide (x = 109 ∨ x = 101 ∨ x = 114 ∨ x = 120)
def tB (x : Nat) : Bool := decide (x = 116 ∨ x = 98 ∨ x = 97)
theorem tB_t {x : Nat} (h : isT x) : tB x = true := by
  have h2 : x = 116 ∨ x = 98 ∨ x = 97 := h
  unfold tB
  exact decide_eq_true h2
def cG (T : Nat → Nat) (len : Nat) : Nat := cntS (fun k => gB (T k)) len
def eS (T : Nat → Nat) (len S : Nat) : Nat := if cG T len = 0 then 0 else pcN S - 1
def phi (T : Nat → Nat) (len : Nat) (wt : Nat → Nat) (c : Cf) : Nat := (sw wt len - sw wt c.1) + (flg c.2.1 c.2.2.1.1 * sw wt len + eS T len c.2.2.1.1 * (cB T len * sw wt len))
def wtT (T : Nat → Nat) (k : Nat) : Nat := if tB (T k) = true then 1 else 0
/-- a good place to stand -/
def gcf (T : Nat → Nat) (len n0 : Nat) (c : Cf) : Prop := (c.1 ≤ len ∧ ∃ s, s ≤ 1 ∧ scn T c.1 = some (s, c.2.1.length)) ∧ gdC n0 c.2.2 ∧ (∀ s0, s0 ∈ c.2.1 → s0 < 64 ∧ sub c.2.2.1.1 s0 ∧ pcN s0 ≤ n0) ∧ (0 < c.2.2.1.2.2.1 → c.2.2.2.2.1 + phi T len (wtT T) c ≤ 156)
theorem cntS_mono {p : Nat → Bool} {j k : Nat} (h : j ≤ k) : cntS p j ≤ cntS p k := by
  obtain ⟨d, rfl⟩ : ∃ d, k = j + d := ⟨k - j, by omega⟩
  induction d with
  | zero => exact Nat.le_refl _
  | succ d ih =>
    have := ih (by omega)
    show _ ≤ cntS p (j + d) + _
    omega
theorem cntS_pos {p : Nat → Bool} {j k : Nat} (h : j < k) (hp : p j = true) : 0 < cntS p k := by
  have h1 : cntS p (j + 1) ≤ cntS p k := cntS_mono h
  have h2 : cntS p (j + 1) = cntS p j + (if p j = true then 1 else 0) := rfl
  rw [hp, if_pos rfl] at h2
  omega
theorem bst_cB : ∀ k, (bst T k).length ≤ cntS (fun k => decide (T k = 40)) k := by
  intro k
  induction k with
  | zero => exact Nat.le_refl _
  | succ k ih =>
    have e : cntS (fun k => decide (T k = 40)) (k + 1) = cntS (fun k => decide (T k = 40)) k + (if decide (T k = 40) = true then 1 else 0) := rfl
    rw [e, bst_s]
    by_cases c1 : T k = 40
    · rw [if_pos c1, decide_eq_true c1, if_pos rfl, List.length_cons]; omega
    · rw [if_neg c1]
      by_cases c2 : T k = 41
      · rw [if_pos c2, List.length_tail]; omega
      · rw [if_neg c2]; omega
theorem sub_eq {s t : Nat} (hs' : s < 64) (ht : t < 64) (h : sub t s) (hp : pcN t = pcN s) : t = s := by
  have key : ∀ s, s < 64 → ∀ t, t < 64 → (∀ k, k < 6 → hs t k = true → hs s k = true) → pcN t = pcN s → t = s := by decide +kernel
  exact key s hs' t ht h hp
theorem sub_pc {s t : Nat} (hs' : s < 64) (ht : t < 64) (h : sub t s) : pcN t ≤ pcN s := by
  have key : ∀ s, s < 64 → ∀ t, t < 64 → (∀ k, k < 6 → hs t k = true → hs s k = true) → pcN t ≤ pcN s := by decide +kernel
  exact key s hs' t ht h
/-- a step: it stays good, and every sum of weights falls -/
theorem st_phi {c : Cf} (hWF : WF T len) (hg : gcf T len n0 c) (hgo : going len c) (wt : Nat → Nat) (hO : 0 < (stS rd ln l T c).2.2.1.2.2.1) : phi T len wt (stS rd ln l T c) + wt c.1 ≤ phi T len wt c := by
  obtain ⟨p, ss, σ⟩ := c
  obtain ⟨⟨hp, s, hs1, hsc⟩, hC, hss, ht⟩ := hg
  obtain ⟨hlt, hO0⟩ := hgo
  dsimp only at hp hsc hC hss ht hlt hO0
  have hw1 : sw wt (p + 1) = sw wt p + wt p := rfl
  have hw2 : sw wt (p + 1) ≤ sw wt len := sw_mono hlt
  have hbl := bst_len p _ _ hsc
  rcases st_kind hWF hlt hsc hs1 with ⟨g, -⟩ | ⟨g, hd, -⟩ | ⟨hx, g1, g2, g3, g4, g5, g6, g7, g8, g9⟩
  · have e : stS rd ln l T (p, ss, σ) = (p + 1, σ.1.1 :: ss, σ) := by unfold stS; rw [if_pos g]
    rw [e]
    unfold phi
    dsimp only
    have hf : flg (σ.1.1 :: ss) σ.1.1 = flg ss σ.1.1 := by
      show (if σ.1.1 = σ.1.1 then 0 else 1) + flg ss σ.1.1 = _
      rw [if_pos rfl, Nat.zero_add]
    rw [hf]
    omega
  · obtain ⟨s0, sr, rfl⟩ : ∃ s0 sr, ss = s0 :: sr := by
      cases ss with
      | nil => exact absurd hd (by decide)
      | cons a b => exact ⟨a, b, rfl⟩
    have e : stS rd ln l T (p, s0 :: sr, σ) = if s0 = σ.1.1 then (p + 1, sr, σ) else ((bst T p).headD 0 + 1, σ.1.1 :: sr, σ) := by unfold stS; rw [if_neg (by show ¬ T p = 40; omega), if_pos g]
    rw [e]
    have hf : flg (s0 :: sr) σ.1.1 = (if s0 = σ.1.1 then 0 else 1) + flg sr σ.1.1 := rfl
    by_cases c : s0 = σ.1.1
    · rw [if_pos c] at hf ⊢
      unfold phi
      dsimp only
      rw [hf, Nat.zero_add]
      omega
    · rw [if_neg c] at hf ⊢
      have hf2 : flg (σ.1.1 :: sr) σ.1.1 = flg sr σ.1.1 := by
        show (if σ.1.1 = σ.1.1 then 0 else 1) + flg sr σ.1.1 = _
        rw [if_pos rfl, Nat.zero_add]
      unfold phi
      dsimp only
      rw [hf, hf2, Nat.add_mul, Nat.one_mul]
      omega
  · have e : stS rd ln l T (p, ss, σ) = (nx T p, ss, obS rd ln l (T p) (shr T p) σ) := by unfold stS; rw [if_neg g1, if_neg g2]
    rw [e] at hO ⊢
    dsimp only at hO
    have hw3 : sw wt (p + 1) ≤ sw wt (nx T p) := sw_mono (by omega)
    have hw4 : sw wt (nx T p) ≤ sw wt len := sw_mono g6
    have htt : isT (T p) → σ.2.2.1 < 156 := by
      intro hT
      have h1 := ht hO0
      have h2 : sw (wtT T) (p + 1) = sw (wtT T) p + wtT T p := rfl
      have h3 : wtT T p = 1 := by unfold wtT; rw [tB_t hT, if_pos rfl]
      have h4 : sw (wtT T) (p + 1) ≤ sw (wtT T) len := sw_mono hlt
      unfold phi at h1
      dsimp only at h1
      omega
    obtain ⟨q1, q2, q3, q4, q5⟩ := ob_gd (rd := rd) (ln := ln) (l := l) (num := shr T p) hC htt
    generalize hσ' : obS rd ln l (T p) (shr T p) σ = σ' at hO q1 q2 q3 q4 q5
    unfold phi
    dsimp only
    by_cases c : σ'.1.1 = σ.1.1
    · rw [c]; omega
    · have hG : gB (T p) = true := by
        unfold gB
        refine decide_eq_true ?_
        rcases hx with h | h | h
        · exact absurd (by rw [q5 (Or.inl h)]) c
        · exact absurd (by rw [q5 (Or.inr h)]) c
        · exact h
      have hcG : ¬ cG T len = 0 := by have := cntS_pos (p := fun k => gB (T k)) hlt hG; unfold cG; omega
      have hpc : pcN σ'.1.1 ≠ pcN σ.1.1 := fun e => c (sub_eq hC.1.1 q1.1.1 q2 e)
      have hpos : 1 ≤ pcN σ'.1.1 := by have := q1.1.2.2.1; omega
      have hf : flg ss σ'.1.1 ≤ cB T len := by
        have h1 := flg_le ss σ'.1.1
        have h2 := bst_cB (T := T) p
        have h3 : cntS (fun k => decide (T k = 40)) p ≤ cB T len := cntS_mono (Nat.le_of_lt hlt)
        omega
      have hmul : flg ss σ'.1.1 * sw wt len ≤ cB T len * sw wt len := Nat.mul_le_mul_right _ hf
      have hE1 : eS T len σ'.1.1 = pcN σ'.1.1 - 1 := by unfold eS; rw [if_neg hcG]
      have hE2 : eS T len σ.1.1 = pcN σ.1.1 - 1 := by unfold eS; rw [if_neg hcG]
      obtain ⟨E', hE'⟩ : ∃ E', pcN σ'.1.1 - 1 = E' := ⟨_, rfl⟩
      obtain ⟨dE, hdE⟩ : ∃ dE, pcN σ.1.1 - 1 = E' + 1 + dE := ⟨pcN σ.1.1 - 1 - (E' + 1), by omega⟩
      rw [hE1, hE2, hE', hdE, Nat.add_mul, Nat.add_mul, Nat.one_mul]
      have : 0 ≤ dE * (cB T len * sw wt len) := Nat.zero_le _
      generalize dE * (cB T len * sw wt len) = z1 at this ⊢
      generalize E' * (cB T len * sw wt len) = z2
      generalize hz3 : cB T len * sw wt len = z3 at hmul ⊢
      generalize flg ss σ'.1.1 * sw wt len = z4 at hmul ⊢
      generalize flg ss σ.1.1 * sw wt len = z5
      omega
theorem st_gd {c : Cf} (hWF : WF T len) (hg : gcf T len n0 c) (hgo : going len c) : gcf T len n0 (stS rd ln l T c) := by
  have hphi := fun hO => st_phi (rd := rd) (ln := ln) (l := l) hWF hg hgo (wtT T) hO
  obtain ⟨p, ss, σ⟩ := c
  obtain ⟨⟨hp, s, hs1, hsc⟩, hC, hss, ht⟩ := hg
  obtain ⟨hlt, hO0⟩ := hgo
  dsimp only at hp hsc hC hss ht hlt hO0 hphi
  have hbl := bst_len p _ _ hsc
  rcases st_kind hWF hlt hsc hs1 with ⟨g, g0⟩ | ⟨g, hd, g0⟩ | ⟨hx, g1, g2, g3, g4, g5, g6, g7, g8, g9⟩
  · have e : stS rd ln l T (p, ss, σ) = (p + 1, σ.1.1 :: ss, σ) := by unfold stS; rw [if_pos g]
    rw [e] at hphi ⊢
    refine ⟨⟨hlt, 0, by omega, g0⟩, hC, fun s0 hs0 => ?_, fun h => ?_⟩
    · rcases List.mem_cons.mp hs0 with e | e
      · subst e; exact ⟨hC.1.1, sub_rfl, hC.2.2.1⟩
      · exact hss s0 e
    · have := hphi h; have := ht hO0; dsimp only at *; omega
  · obtain ⟨s0, sr, rfl⟩ : ∃ s0 sr, ss = s0 :: sr := by
      cases ss with
      | nil => exact absurd hd (by decide)
      | cons a b => exact ⟨a, b, rfl⟩
    have e : stS rd ln l T (p, s0 :: sr, σ) = if s0 = σ.1.1 then (p + 1, sr, σ) else ((bst T p).headD 0 + 1, σ.1.1 :: sr, σ) := by unfold stS; rw [if_neg (by show ¬ T p = 40; omega), if_pos g]
    rw [e] at hphi ⊢
    by_cases c : s0 = σ.1.1
    · rw [if_pos c] at hphi ⊢
      refine ⟨⟨hlt, 1, by omega, g0⟩, hC, fun s0 hs0 => hss s0 (List.mem_cons_of_mem _ hs0), fun h => ?_⟩
      have := hphi h; have := ht hO0; dsimp only at *; omega
    · rw [if_neg c] at hphi ⊢
      obtain ⟨b, rest, hb⟩ : ∃ b rest, bst T p = b :: rest := by
        cases hq : bst T p with
        | nil => rw [hq] at hbl; cases hbl
        | cons b rest => exact ⟨b, rest, rfl⟩
      obtain ⟨u1, u2, u3⟩ := bst_up p p b rest (Nat.le_refl _) hb
      obtain ⟨sb, db, hsb⟩ := scn_all hWF b (by omega)
      have hb1 : bst T (b + 1) = b :: rest := by rw [bst_s, if_pos u3, u1]
      obtain ⟨sb', db', v1, v2, v3, v4, v5⟩ := scn_step hWF (show b < len by omega)
      rw [u3] at v4
      have v6 : v1 = 0 := by
        unfold tst at v4
        repeat' split at v4
        all_goals first | (cases v4; done) | (simp [dgN, plN] at *; done) | (simp only [Option.some.injEq, Prod.mk.injEq] at v4; omega)
      subst v6
      have hl1 := bst_len (b + 1) _ _ v5
      rw [hb1] at hl1
      rw [hb] at hbl
      have hhd : (bst T p).headD 0 = b := by rw [hb]; rfl
      rw [hhd] at hphi ⊢
      refine ⟨⟨by show b + 1 ≤ len; omega, 0, by omega, ?_⟩, hC, fun s1 hs1 => ?_, fun h => ?_⟩
      · show scn T (b + 1) = some (0, (σ.1.1 :: sr).length)
        rw [v5, ← hl1, hbl]; rfl
      · rcases List.mem_cons.mp hs1 with e | e
        · subst e; exact ⟨hC.1.1, sub_rfl, hC.2.2.1⟩
        · exact hss s1 (List.mem_cons_of_mem _ e)
      · have := hphi h; have := ht hO0; dsimp only at *; omega
  · have e : stS rd ln l T (p, ss, σ) = (nx T p, ss, obS rd ln l (T p) (shr T p) σ) := by unfold stS; rw [if_neg g1, if_neg g2]
    rw [e] at hphi ⊢
    have htt : isT (T p) → σ.2.2.1 < 156 := by
      intro hT
      have h1 := ht hO0
      have h2 : sw (wtT T) (p + 1) = sw (wtT T) p + wtT T p := rfl
      have h3 : wtT T p = 1 := by unfold wtT; rw [tB_t hT, if_pos rfl]
      have h4 : sw (wtT T) (p + 1) ≤ sw (wtT T) len := sw_mono hlt
      unfold phi at h1
      dsimp only at h1
      omega
    obtain ⟨q1, q2, q3, q4, q5⟩ := ob_gd (rd := rd) (ln := ln) (l := l) (num := shr T p) hC htt
    refine ⟨⟨g6, 1, by omega, g5⟩, q1, fun s0 hs0 => ?_, fun h => ?_⟩
    · obtain ⟨k1, k2, k3⟩ := hss s0 hs0
      exact ⟨k1, sub_tr q2 k2, k3⟩
    · have h1 := hphi h
      have h2 := ht hO0
      have h3 : wtT T p = (if T p = 116 ∨ T p = 98 ∨ T p = 97 then 1 else 0) := by
        unfold wtT tB
        by_cases cc : T p = 116 ∨ T p = 98 ∨ T p = 97
        · rw [decide_eq_true cc, if_pos rfl, if_pos cc]
        · rw [decide_eq_false cc, if_neg (by decide), if_neg cc]
      dsimp only at *
      rw [q4]
      omega
theorem tal_lt {c : Cf} (hg : gcf T len n0 c) (hgo : going len c) (hT : isT (T c.1)) : c.2.2.2.2.1 < 156 := by
  have h1 := hg.2.2.2 hgo.2
  have h2 : sw (wtT T) (c.1 + 1) = sw (wtT T) c.1 + wtT T c.1 := rfl
  have h3 : wtT T c.1 = 1 := by unfold wtT; rw [tB_t hT, if_pos rfl]
  have h4 : sw (wtT T) (c.1 + 1) ≤ sw (wtT T) len := sw_mono hgo.1
  unfold phi at h1
  omega
/-- letters: how many of each kind a rule has -/
theorem cnt_s (p : Nat → Bool) (k : Nat) : cntS p (k + 1) = cntS p k + (if p k = true then 1 else 0) := rfl
theorem scn_le {k s d : Nat} (h : scn T k = some (s, d)) : s ≤ 4 := by
  cases k with
  | zero => unfold scn at h; simp only [Option.some.injEq, Prod.mk.injEq] at h; omega
  | succ k => obtain ⟨s1, d1, -, h2⟩ := scn_some h; exact (tst_lt h2).1
theorem let_cnt : ∀ k s d, scn T k = some (s, d) → cntS (fun k => tB (T k)) k + cntS (fun k => gB (T k)) k ≤ cntS (fun k => decide (T k = 59)) k + (if 2 ≤ s then 1 else 0) ∧ cntS (fun k => decide (T k = 40)) k = cntS (fun k => decide (T k = 41)) k + d ∧
    cntS (fun k => tB (T k)) k + cntS (fun k => gB (T k)) k + cntS (fun k => decide (T k = 59)) k + cntS (fun k => decide (T k = 40)) k + cntS (fun k => decide (T k = 41)) k ≤ k := by
  intro k
  induction k with
  | zero =>
    intro s d h
    unfold scn at h
    simp only [Option.some.injEq, Prod.mk.injEq] at h
    refine ⟨?_, ?_, ?_⟩
    · show 0 + 0 ≤ 0 + _; omega
    · show 0 = 0 + d; omega
    · show 0 + 0 + 0 + 0 + 0 ≤ 0; omega
  | succ k ih =>
    intro s' d' h
    obtain ⟨s, d, h1, h2⟩ := scn_some h
    obtain ⟨i1, i2, i3⟩ := ih s d h1
    rw [cnt_s, cnt_s, cnt_s, cnt_s, cnt_s]
    unfold tst at h2
    have hgen : ∀ x, T k = x → ((if tB (T k) = true then 1 else 0) = if x = 116 ∨ x = 98 ∨ x = 97 then 1 else 0) ∧ ((if gB (T k) = true then 1 else 0) = if x = 109 ∨ x = 101 ∨ x = 114 ∨ x = 120 then 1 else 0) := by
      intro x hx
      unfold tB gB
      rw [hx]
      simp only [decide_eq_true_eq, and_self]
    obtain ⟨e1, e2⟩ := hgen _ rfl
    rw [e1, e2]
    simp only [decide_eq_true_eq]
    have hpl : plN (T k) = true → T k = 116 ∨ T k = 98 ∨ T k = 97 ∨ T k = 109 ∨ T k = 120 ∨ T k = 114 ∨ T k = 108 ∨ T k = 104 ∨ T k = 113 := fun h => by unfold plN at h; simpa using h
    have hdg : dgN (T k) = true → 48 ≤ T k ∧ T k ≤ 57 := fun h => by unfold dgN at h; simpa using h
    have hs4 := scn_le h1
    obtain ⟨z, hz, hz2⟩ : ∃ z : Nat, (if 2 ≤ s then 1 else 0) = z ∧ (2 ≤ s ∧ z = 1 ∨ s < 2 ∧ z = 0) := by
      by_cases c : 2 ≤ s
      · exact ⟨1, if_pos c, Or.inl ⟨c, rfl⟩⟩
      · exact ⟨0, if_neg c, Or.inr ⟨by omega, rfl⟩⟩
    rw [hz] at i1
    repeat' split at h2
    all_goals first | (cases h2; done) | skip
    all_goals simp only [Option.some.injEq, Prod.mk.injEq] at h2
    all_goals (first | have hq := hdg (by assumption) | have hq := hpl (by assumption) | have hq : True := trivial)
    all_goals (refine ⟨?_, ?_, ?_⟩ <;> (repeat' split) <;> omega)
theorem sw_cnt (p : Nat → Bool) : ∀ k, sw (fun j => if p j = true then 1 else 0) k = cntS p k := by
  intro k
  induction k with
  | zero => rfl
  | succ k ih => show sw _ k + _ = cntS p k + _; rw [ih]
theorem tal_bound (hWF : WF T len) (hlen : len ≤ 24) : sw (wtT T) len + (if cG T len = 0 then 0 else 5) * (cB T len * sw (wtT T) len) ≤ 156 := by
  obtain ⟨h1, h2, h3⟩ := let_cnt len 1 0 hWF
  have hK : sw (wtT T) len = cntS (fun k => tB (T k)) len := sw_cnt (fun k => tB (T k)) len
  rw [hK]
  unfold cG cB
  generalize cntS (fun k => tB (T k)) len = K at h1 h3 ⊢
  generalize cntS (fun k => gB (T k)) len = G at h1 h3 ⊢
  generalize cntS (fun k => decide (T k = 59)) len = F at h1 h3
  generalize cntS (fun k => decide (T k = 40)) len = B at h2 h3 ⊢
  generalize cntS (fun k => decide (T k = 41)) len = B2 at h2 h3
  rw [if_neg (by decide)] at h1
  by_cases c : G = 0
  · rw [if_pos c, Nat.zero_mul]; omega
  · rw [if_neg c]
    rcases (show B = 0 ∨ B = 1 ∨ B = 2 ∨ B = 3 ∨ B = 4 ∨ B = 5 ∨ B = 6 ∨ B = 7 ∨ B = 8 ∨ B = 9 ∨ B = 10 ∨ B = 11 by omega) with rfl | rfl | rfl | rfl | rfl | rfl | rfl | rfl | rfl | rfl | rfl | rfl <;> omega
/-- at the start -/
theorem gcf_0 {σ : CS} (hWF : WF T len) (hlen : len ≤ 24) (hC : gdC n0 σ) (htn : σ.2.2.1 = 0) : gcf T len n0 (0, [], σ) := by
  refine ⟨⟨Nat.zero_le _, 0, by omega, rfl⟩, hC, fun s0 h => by (cases h), fun _ => ?_⟩
  have hb := tal_bound hWF hlen
  have hp := zb_pc6 _ hC.1.1
  show σ.2.2.1 + ((sw (wtT T) len - sw (wtT T) 0) + (flg [] σ.1.1 * sw (wtT T) len + eS T len σ.1.1 * (cB T len * sw (wtT T) len))) ≤ 156
  have h0 : flg [] σ.1.1 = 0 := rfl
  have h1 : sw (wtT T) 0 = 0 := rfl
  rw [htn, h0, h1, Nat.zero_mul]
  have hE : eS T len σ.1.1 ≤ (if cG T len = 0 then 0 else 5) := by
    unfold eS
    split <;> omega
  have hm : eS T len σ.1.1 * (cB T len * sw (wtT T) len) ≤ (if cG T len = 0 then 0 else 5) * (cB T len * sw (wtT T) len) := Nat.mul_le_mul_right _ hE
  omega
def phi1 (T : Nat → Nat) (len : Nat) (c : Cf) : Nat := phi T len (fun _ => 1) c
theorem sw_one : ∀ k, sw (fun _ => 1) k = k := by
  intro k
  induction k with
  | zero => rfl
  | succ k ih => show sw _ k + 1 = _; rw [ih]
theorem phi1_0 {σ : CS} (hlen : len ≤ 24) (hS : σ.1.1 < 64) : phi1 T len (0, [], σ) ≤ 2904 := by
  have hp := zb_pc6 _ hS
  have hB : cB T len ≤ 24 := Nat.le_trans cntS_le hlen
  show (sw (fun _ => 1) len - sw (fun _ => 1) 0) + (flg [] σ.1.1 * sw (fun _ => 1) len + eS T len σ.1.1 * (cB T len * sw (fun _ => 1) len)) ≤ 2904
  have h0 : flg [] σ.1.1 = 0 := rfl
  rw [h0, sw_one, sw_one, Nat.zero_mul]
  have hE : eS T len σ.1.1 ≤ 5 := by unfold eS; split <;> omega
  have h1 : cB T len * len ≤ 24 * 24 := Nat.mul_le_mul hB hlen
  have h2 : eS T len σ.1.1 * (cB T len * len) ≤ 5 * (24 * 24) := Nat.mul_le_mul hE h1
  omega
theorem st_phi1 {c : Cf} (hWF : WF T len) (hg : gcf T len n0 c) (hgo : going len c) (hO : 0 < (stS rd ln l T c).2.2.1.2.2.1) : phi1 T len (stS rd ln l T c) + 1 ≤ phi1 T len c := st_phi hWF hg hgo (fun _ => 1) hO
/-- n steps, or until it is over -/
def run (rd : Nat → Nat → Nat) (ln : Nat → Nat) (l : List Nat) (T : Nat → Nat) (len : Nat) : Nat → Cf → Cf
  | 0, c => c
  | n + 1, c => if c.1 < len ∧ 0 < c.2.2.1.2.2.1 then run rd ln l T len n (stS rd ln l T c) else c
theorem run_go {c : Cf} {n : Nat} (h : going len c) : run rd ln l T len (n + 1) c = run rd ln l T len n (stS rd ln l T c) := by
  show (if _ then _ else _) = _
  rw [if_pos (show c.1 < len ∧ 0 < c.2.2.1.2.2.1 from h)]
theorem run_end {c : Cf} (h : ¬ going len c) : ∀ n, run rd ln l T len n c = c := by
  intro n
  cases n with
  | zero => rfl
  | succ n => show (if _ then _ else _) = _; rw [if_neg (show ¬ (c.1 < len ∧ 0 < c.2.2.1.2.2.1) from h)]
theorem run_add : ∀ (n k : Nat) (c : Cf), run rd ln l T len (n + k) c = run rd ln l T len k (run rd ln l T len n c) := by
  intro n
  induction n with
  | zero => intro k c; rw [Nat.zero_add]; rfl
  | succ n ih =>
    intro k c
    by_cases h : going len c
    · rw [show n + 1 + k = (n + k) + 1 from by omega, run_go h, run_go h, ih]
    · rw [run_end h, run_end h, run_end h]
theorem run_uniq {c c1 c2 : Cf} {n k : Nat} (h1 : run rd ln l T len n c = c1) (h2 : run rd ln l T len k c = c2) (e1 : ¬ going len c1) (e2 : ¬ going len c2) : c1 = c2 := by
  have a1 := run_add (rd := rd) (ln := ln) (l := l) (T := T) (len := len) n k c
  have a2 := run_add (rd := rd) (ln := ln) (l := l) (T := T) (len := len) k n c
  rw [h1, run_end e1] at a1
  rw [h2, run_end e2, Nat.add_comm] at a2
  exact a1.symm.trans a2
end FLOW

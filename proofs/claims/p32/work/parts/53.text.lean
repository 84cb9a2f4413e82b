/-! THE TEXT: what may come next; its fault, both sides alike -/
def dgN (x : Nat) : Bool := decide (48 ≤ x) && decide (x ≤ 57)
def plN (x : Nat) : Bool := decide (x = 116 ∨ x = 98 ∨ x = 97 ∨ x = 109 ∨ x = 120 ∨ x = 114 ∨ x = 108 ∨ x = 104 ∨ x = 113)
theorem cls (x : Nat) : (x = 59 ∧ plN x = false ∧ dgN x = false) ∨ (x = 40 ∧ plN x = false ∧ dgN x = false) ∨ (x = 41 ∧ plN x = false ∧ dgN x = false) ∨ (x = 101 ∧ plN x = false ∧ dgN x = false) ∨
    (x ≠ 59 ∧ x ≠ 40 ∧ x ≠ 41 ∧ x ≠ 101 ∧ plN x = true ∧ dgN x = false) ∨ (x ≠ 59 ∧ x ≠ 40 ∧ x ≠ 41 ∧ x ≠ 101 ∧ plN x = false ∧ dgN x = true) ∨ (x ≠ 59 ∧ x ≠ 40 ∧ x ≠ 41 ∧ x ≠ 101 ∧ plN x = false ∧ dgN x = false) := by
  by_cases h1 : x = 59
  · subst h1; exact Or.inl ⟨rfl, rfl, rfl⟩
  by_cases h2 : x = 40
  · subst h2; exact Or.inr (Or.inl ⟨rfl, rfl, rfl⟩)
  by_cases h3 : x = 41
  · subst h3; exact Or.inr (Or.inr (Or.inl ⟨rfl, rfl, rfl⟩))
  by_cases h4 : x = 101
  · subst h4; exact Or.inr (Or.inr (Or.inr (Or.inl ⟨rfl, rfl, rfl⟩)))
  refine Or.inr (Or.inr (Or.inr (Or.inr ?_)))
  cases hp : plN x
  · cases hd : dgN x
    · exact Or.inr (Or.inr ⟨h1, h2, h3, h4, rfl, rfl⟩)
    · exact Or.inr (Or.inl ⟨h1, h2, h3, h4, rfl, rfl⟩)
  · have hd : dgN x = false := by
      unfold plN at hp
      unfold dgN
      rw [decide_eq_true_eq] at hp
      rw [decide_eq_false (show ¬ x ≤ 57 by omega), Bool.and_false]
    exact Or.inl ⟨h1, h2, h3, h4, rfl, hd⟩
theorem f_digit {x : Nat} (h : x < 65536) : f_Ballotscript_isDigit (nI x) = some (tI (dgN x)) := by
  unfold f_Ballotscript_isDigit dgN
  simp only [qc_48 (show x < 2147483648 by omega), qd_57 (show x < 2147483648 by omega)]
  by_cases h1 : x < 48
  · rw [if_pos h1, decide_eq_false (by omega)]; rfl
  · rw [if_neg h1, decide_eq_true (show 48 ≤ x by omega)]
    by_cases h2 : 57 < x
    · rw [if_pos h2, decide_eq_false (by omega)]; rfl
    · rw [if_neg h2, decide_eq_true (show x ≤ 57 by omega)]; rfl
theorem m_digit {x : Nat} (h : x < 65536) : m_isFigure (nI x) = some (tI (dgN x)) := f_digit h
theorem pl_ix {x : Nat} (h : x < 65536) : (sIx 0 (nI x) < (0 : Int32)) = (plN x = false) := by
  have hx : sIx 0 (nI x) = ixF (nI x) [116, 98, 97, 109, 120, 114, 108, 104, 113] 0 := rfl
  have e1 : ∀ c : Nat, c < 65536 → (nI c = nI x) = (c = x) := fun c hc => nl_eq (by omega) (by omega)
  rw [hx]
  by_cases h1 : x = 116
  · subst h1; exact propext (by decide +kernel)
  by_cases h2 : x = 98
  · subst h2; exact propext (by decide +kernel)
  by_cases h3 : x = 97
  · subst h3; exact propext (by decide +kernel)
  by_cases h4 : x = 109
  · subst h4; exact propext (by decide +kernel)
  by_cases h5 : x = 120
  · subst h5; exact propext (by decide +kernel)
  by_cases h6 : x = 114
  · subst h6; exact propext (by decide +kernel)
  by_cases h7 : x = 108
  · subst h7; exact propext (by decide +kernel)
  by_cases h8 : x = 104
  · subst h8; exact propext (by decide +kernel)
  by_cases h9 : x = 113
  · subst h9; exact propext (by decide +kernel)
  have e2 : ixF (nI x) [116, 98, 97, 109, 120, 114, 108, 104, 113] 0 = -1 := by
    unfold ixF; rw [if_neg (show ¬ (116 : Int32) = nI x from fun e => h1 ((Iff.of_eq (e1 116 (by decide))).mp e).symm)]
    unfold ixF; rw [if_neg (show ¬ (98 : Int32) = nI x from fun e => h2 ((Iff.of_eq (e1 98 (by decide))).mp e).symm)]
    unfold ixF; rw [if_neg (show ¬ (97 : Int32) = nI x from fun e => h3 ((Iff.of_eq (e1 97 (by decide))).mp e).symm)]
    unfold ixF; rw [if_neg (show ¬ (109 : Int32) = nI x from fun e => h4 ((Iff.of_eq (e1 109 (by decide))).mp e).symm)]
    unfold ixF; rw [if_neg (show ¬ (120 : Int32) = nI x from fun e => h5 ((Iff.of_eq (e1 120 (by decide))).mp e).symm)]
    unfold ixF; rw [if_neg (show ¬ (114 : Int32) = nI x from fun e => h6 ((Iff.of_eq (e1 114 (by decide))).mp e).symm)]
    unfold ixF; rw [if_neg (show ¬ (108 : Int32) = nI x from fun e => h7 ((Iff.of_eq (e1 108 (by decide))).mp e).symm)]
    unfold ixF; rw [if_neg (show ¬ (104 : Int32) = nI x from fun e => h8 ((Iff.of_eq (e1 104 (by decide))).mp e).symm)]
    unfold ixF; rw [if_neg (show ¬ (113 : Int32) = nI x from fun e => h9 ((Iff.of_eq (e1 113 (by decide))).mp e).symm)]
    rfl
  rw [e2]
  have hp : plN x = false := decide_eq_false (by omega)
  rw [hp]
  exact propext (by decide)
theorem m_plain {x : Nat} (h : x < 65536) : m_isPlain (nI x) = some (tI (plN x)) := by
  by_cases h1 : x = 116
  · subst h1; decide +kernel
  by_cases h2 : x = 98
  · subst h2; decide +kernel
  by_cases h3 : x = 97
  · subst h3; decide +kernel
  by_cases h4 : x = 109
  · subst h4; decide +kernel
  by_cases h5 : x = 120
  · subst h5; decide +kernel
  by_cases h6 : x = 114
  · subst h6; decide +kernel
  by_cases h7 : x = 108
  · subst h7; decide +kernel
  by_cases h8 : x = 104
  · subst h8; decide +kernel
  by_cases h9 : x = 113
  · subst h9; decide +kernel
  have hp : plN x = false := decide_eq_false (by omega)
  rw [hp]
  unfold m_isPlain
  simp only [qe_116 (show x < 2147483648 by omega), if_neg h1, qe_98 (show x < 2147483648 by omega), if_neg h2, qe_97 (show x < 2147483648 by omega), if_neg h3]
  unfold m_isPlain_b23
  simp only [qe_109 (show x < 2147483648 by omega), if_neg h4, qe_120 (show x < 2147483648 by omega), if_neg h5, qe_114 (show x < 2147483648 by omega), if_neg h6]
  unfold m_isPlain_b47
  simp only [qe_108 (show x < 2147483648 by omega), qe_104 (show x < 2147483648 by omega), qe_113 (show x < 2147483648 by omega), if_neg h7, if_neg h8, if_neg h9]
  rfl
/-- one letter: state and depth behind it, none where no rule goes on so -/
def tst (x s d : Nat) : Option (Nat × Nat) :=
  if s = 2 then (if x = 59 then some (1, d) else none)
  else if s = 3 then (if dgN x = true then some (4, d) else none)
  else if s = 4 then (if x = 59 then some (1, d) else if dgN x = true then some (2, d) else none)
  else if x = 41 then (if s = 1 ∧ 0 < d then some (1, d - 1) else none)
  else if x = 40 then some (0, d + 1)
  else if x = 101 then some (3, d)
  else if plN x = true then some (2, d) else none
theorem tst_lt {x s d s' d' : Nat} (h : tst x s d = some (s', d')) : s' ≤ 4 ∧ d' ≤ d + 1 := by
  unfold tst at h
  repeat' split at h
  all_goals first | (cases h; done) | (simp only [Option.some.injEq, Prod.mk.injEq] at h; omega)
theorem tst_40 {s d s' d' : Nat} (h : tst 40 s d = some (s', d')) : d' = d + 1 := by
  unfold tst at h
  repeat' split at h
  all_goals first | (cases h; done) | (simp [dgN, plN] at *; done) | (simp only [Option.some.injEq, Prod.mk.injEq] at h; omega)
theorem tst_41 {s d s' d' : Nat} (h : tst 41 s d = some (s', d')) : 0 < d ∧ d' = d - 1 := by
  unfold tst at h
  repeat' split at h
  all_goals first | (cases h; done) | (simp [dgN, plN] at *; done) | (simp only [Option.some.injEq, Prod.mk.injEq] at h; omega)
theorem tst_oth {x s d s' d' : Nat} (h1 : ¬ x = 40) (h2 : ¬ x = 41) (h : tst x s d = some (s', d')) : d' = d := by
  unfold tst at h
  repeat' split at h
  all_goals first | (cases h; done) | (simp only [Option.some.injEq, Prod.mk.injEq] at h; omega)
def stN (o : Option (Nat × Nat)) : Nat := match o with
  | none => 5
  | some p => p.1
theorem f_state {x s d : Nat} (hx : x < 65536) (hs : s ≤ 4) (hd : d ≤ 24) : f_Text_stateAfter (nI x) (nI s) (nI d) = some (nI (stN (tst x s d))) := by
  unfold f_Text_stateAfter
  rw [f_digit hx]
  simp only [pl_ix hx, qe_59 (show x < 2147483648 by omega), qe_41 (show x < 2147483648 by omega), qe_40 (show x < 2147483648 by omega), qe_101 (show x < 2147483648 by omega), qe_1 (show s < 2147483648 by omega), qe_2 (show s < 2147483648 by omega), qe_3 (show s < 2147483648 by omega), qe_4 (show s < 2147483648 by omega), qa_0 (show d < 2147483648 by omega), bnd_eq, tI0]
  rcases cls x with ⟨rfl, h5, h6⟩ | ⟨rfl, h5, h6⟩ | ⟨rfl, h5, h6⟩ | ⟨rfl, h5, h6⟩ | ⟨h1, h2, h3, h4, h5, h6⟩ | ⟨h1, h2, h3, h4, h5, h6⟩ | ⟨h1, h2, h3, h4, h5, h6⟩ <;> rcases (show s = 0 ∨ s = 1 ∨ s = 2 ∨ s = 3 ∨ s = 4 by omega) with rfl | rfl | rfl | rfl | rfl <;> by_cases hd0 : d ≤ 0 <;> (have hd1 : (0 < d) = ¬ (d ≤ 0) := propext (by omega)) <;> simp_all [tst, stN] <;> rfl
def fltF (T : Nat → Nat) : Nat → Nat → Nat → Nat → Int32
  | 0, k, s, d => if s = 1 ∧ d = 0 then -1 else nI k
  | n + 1, k, s, d => match tst (T k) s d with
    | none => nI k
    | some p => fltF T n (k + 1) p.1 p.2
def flt (T : Nat → Nat) (len : Nat) : Int32 := fltF T len 0 0 0
theorem f_fault {w : Wt} {T : Nat → Nat} {len : Nat} (hlen : len ≤ 24) (hw : w 7 1 = nI len) (hT : ∀ k, k < len → w 8 k = nI (T k) ∧ T k < 65536) : f_Text_firstFault w = some (flt T len) := by
  have key : Ok (lp (f_Text_firstFault_L6 w) FU ((0 : Int32), (0 : Int32), (0 : Int32))) (fun r => f_Text_firstFault_x6 w r = some (flt T len)) := by
    refine Ok.count len (fun k z => ∃ s d, z = (nI s, nI d, nI k) ∧ s ≤ 4 ∧ d ≤ k ∧ fltF T (len - k) k s d = flt T len) (fun k z hk h => ?_) (fun z h => ?_) len FU 0 _ (by omega) (by show _ < 100000; omega) ⟨0, 0, rfl, by omega, by omega, rfl⟩
    · obtain ⟨s, d, rfl, h1, h2, h3⟩ := h
      obtain ⟨hT1, hT2⟩ := hT k hk
      have e1 : ¬ w 7 1 ≤ nI k := by rw [hw, nl_le (by omega) (by omega)]; omega
      have e2 : inb (nI k) 24 = true := nl_in (by omega) (by omega)
      have e3 : (nI k).toNatClampNeg = k := nl_cl (by omega)
      rw [show len - k = (len - (k + 1)) + 1 from by omega] at h3
      unfold fltF at h3
      have e4 := f_state hT2 h1 (show d ≤ 24 by omega)
      cases ht : tst (T k) s d with
      | none =>
        rw [ht] at h3 e4
        refine Ok.eq (a := .inr (.inr (nI k))) ?_ ?_
        · have e5 : nI (stN none) = (5 : Int32) := rfl
          simp only [f_Text_firstFault_L6, e1, e2, e3, hT1, e4, e5, gd_t, nmd_eq, bnd_eq, ↓reduceIte]
        · show some (nI k) = _
          rw [← h3]
      | some p =>
        obtain ⟨s', d'⟩ := p
        rw [ht] at h3 e4
        have hb := tst_lt ht
        have e5 : stN (some (s', d')) = s' := rfl
        rw [e5] at e4
        refine Ok.eq (a := .inl (nI s', nI d', nI (k + 1))) ?_ ⟨s', d', rfl, hb.1, by omega, h3⟩
        have e6 : ¬ (nI s' = (5 : Int32)) := by rw [qe_5 (by omega)]; omega
        have e7 : (if T k = 40 then nI d + 1 else if T k = 41 then nI d + (-1) else nI d) = nI d' := by
          by_cases c1 : T k = 40
          · have ht2 := ht
            rw [c1] at ht2
            rw [if_pos c1, nI_1, tst_40 ht2]
          · rw [if_neg c1]
            by_cases c2 : T k = 41
            · rw [if_pos c2]
              have ht2 := ht
              rw [c2] at ht2
              obtain ⟨g1, g2⟩ := tst_41 ht2
              obtain ⟨j, rfl⟩ : ∃ j, d = j + 1 := ⟨d - 1, by omega⟩
              rw [pk_m1, g2]; rfl
            · rw [if_neg c2, tst_oth c1 c2 ht]
        simp only [f_Text_firstFault_L6, e1, e2, e3, hT1, e4, e6, gd_t, nmd_eq, bnd_eq, ↓reduceIte, qe_40 (show T k < 2147483648 by omega), qe_41 (show T k < 2147483648 by omega), nI_1]
        rw [nI_1] at e7
        by_cases c1 : T k = 40
        · rw [if_pos c1] at e7 ⊢; rw [e7]
        · rw [if_neg c1] at e7 ⊢
          by_cases c2 : T k = 41
          · rw [if_pos c2] at e7 ⊢; rw [e7]
          · rw [if_neg c2] at e7 ⊢; rw [e7]
    · obtain ⟨s, d, rfl, h1, h2, h3⟩ := h
      have e1 : w 7 1 ≤ nI len := by rw [hw, nl_le (by omega) (by omega)]; omega
      rw [Nat.sub_self] at h3
      unfold fltF at h3
      refine Ok.eq (a := .inr (.inl (nI s, nI d))) (by simp only [f_Text_firstFault_L6, e1, ↓reduceIte]) ?_
      show f_Text_firstFault_b66 (nI s) (nI d) w = _
      unfold f_Text_firstFault_b66
      simp only [← h3, qe_1 (show s < 2147483648 by omega), qe_0 (show d < 2147483648 by omega), hw]
      by_cases c1 : s = 1 <;> by_cases c2 : d = 0 <;> simp [c1, c2]
  obtain ⟨r, e, hr⟩ := key
  unfold f_Text_firstFault
  rw [e]
  exact hr
theorem m_fault_eq {m : Wt} {T : Nat → Nat} {len : Nat} (hlen : len ≤ 24) (hw : m 0 8 = nI len) (hT : ∀ k, k < len → m 6 k = nI (T k) ∧ T k < 65536) : m_faultOf m = some (flt T len) := by
  have key : Ok (lp (m_faultOf_L6 m) FU ((0 : Int32), (0 : Int32), (0 : Int32))) (fun r => m_faultOf_x6 m r = some (flt T len)) := by
    refine Ok.count len (fun k z => ∃ s d, z = (nI d, nI s, nI k) ∧ s ≤ 4 ∧ d ≤ k ∧ fltF T (len - k) k s d = flt T len) (fun k z hk h => ?_) (fun z h => ?_) len FU 0 _ (by omega) (by show _ < 100000; omega) ⟨0, 0, rfl, by omega, by omega, rfl⟩
    · obtain ⟨s, d, rfl, h1, h2, h3⟩ := h
      obtain ⟨hT1, hT2⟩ := hT k hk
      have e1 : ¬ m 0 8 ≤ nI k := by rw [hw, nl_le (by omega) (by omega)]; omega
      have e2 : inb (nI k) 24 = true := nl_in (by omega) (by omega)
      have e3 : (nI k).toNatClampNeg = k := nl_cl (by omega)
      rw [show len - k = (len - (k + 1)) + 1 from by omega] at h3
      unfold fltF at h3
      have body : m_faultOf_L6 m (nI d, nI s, nI k) = some (match tst (T k) s d with | none => .inr (.inr (nI k)) | some p => .inl (nI p.2, nI p.1, nI (k + 1))) := by
        simp only [m_faultOf_L6, e1, e2, e3, hT1, gd_t, nmd_eq, bnd_eq, ↓reduceIte, m_plain hT2, tI0, m_faultOf_b40, m_faultOf_b57, m_faultOf_b77, m_faultOf_b99, m_faultOf_b109, m_faultOf_b121, m_faultOf_b131, m_digit hT2, qe_59 (show T k < 2147483648 by omega), qe_41 (show T k < 2147483648 by omega), qe_40 (show T k < 2147483648 by omega), qe_101 (show T k < 2147483648 by omega), qe_1 (show s < 2147483648 by omega), qe_2 (show s < 2147483648 by omega), qe_3 (show s < 2147483648 by omega), qe_4 (show s < 2147483648 by omega), qb_2 (show s < 2147483648 by omega), qa_0 (show d < 2147483648 by omega), nI_1]
        have hd9 : 0 < d → nI d + (-1) = nI (d - 1) := fun h0 => by
          obtain ⟨j, rfl⟩ : ∃ j, d = j + 1 := ⟨d - 1, by omega⟩
          rw [pk_m1]; rfl
        have l1 : (1 : Int32) = nI 1 := rfl
        have l2 : (2 : Int32) = nI 2 := rfl
        have l3 : (3 : Int32) = nI 3 := rfl
        have l4 : (4 : Int32) = nI 4 := rfl
        have l0 : (0 : Int32) = nI 0 := rfl
        rcases cls (T k) with ⟨h4, h5, h6⟩ | ⟨h4, h5, h6⟩ | ⟨h4, h5, h6⟩ | ⟨h4, h5, h6⟩ | ⟨h7, h8, h9, h4, h5, h6⟩ | ⟨h7, h8, h9, h4, h5, h6⟩ | ⟨h7, h8, h9, h4, h5, h6⟩ <;> rcases (show s = 0 ∨ s = 1 ∨ s = 2 ∨ s = 3 ∨ s = 4 by omega) with rfl | rfl | rfl | rfl | rfl <;> by_cases hd0 : d ≤ 0 <;> (have hd1 : (0 < d) = ¬ (d ≤ 0) := propext (by omega)) <;> simp_all [tst] <;> first | rfl | (rw [hd9 (by omega)]; rfl) | exact hd9 (by omega)
      refine Ok.eq body ?_
      cases ht : tst (T k) s d with
      | none =>
        rw [ht] at h3
        show some (nI k) = _
        rw [← h3]
      | some p =>
        obtain ⟨s', d'⟩ := p
        rw [ht] at h3
        have hb := tst_lt ht
        exact ⟨s', d', rfl, hb.1, by omega, h3⟩
    · obtain ⟨s, d, rfl, h1, h2, h3⟩ := h
      have e1 : m 0 8 ≤ nI len := by rw [hw, nl_le (by omega) (by omega)]; omega
      rw [Nat.sub_self] at h3
      unfold fltF at h3
      refine Ok.eq (a := .inr (.inl (nI d, nI s))) (by simp only [m_faultOf_L6, e1, ↓reduceIte]) ?_
      show m_faultOf_b161 (nI d) (nI s) m = _
      unfold m_faultOf_b161
      simp only [← h3, qe_1 (show s < 2147483648 by omega), qe_0 (show d < 2147483648 by omega), hw]
      by_cases c1 : s = 1 <;> by_cases c2 : d = 0 <;> simp [c1, c2]
  obtain ⟨r, e, hr⟩ := key
  unfold m_faultOf
  rw [e]
  exact hr
/-- state and depth behind k letters -/
def scn (T : Nat → Nat) : Nat → Option (Nat × Nat)
  | 0 => some (0, 0)
  | k + 1 => match scn T k with
    | none => none
    | some p => tst (T k) p.1 p.2
theorem scn_some {T : Nat → Nat} {k : Nat} {p : Nat × Nat} (h : scn T (k + 1) = some p) : ∃ s d, scn T k = some (s, d) ∧ tst (T k) s d = some p := by
  unfold scn at h
  cases e : scn T k with
  | none => rw [e] at h; cases h
  | some q => rw [e] at h; exact ⟨q.1, q.2, rfl, h⟩
/-- the text is a rule -/
def WF (T : Nat → Nat) (len : Nat) : Prop := scn T len = some (1, 0)
theorem scn_all {T : Nat → Nat} {len : Nat} (h : WF T len) : ∀ k, k ≤ len → ∃ s d, scn T k = some (s, d) := by
  have : ∀ j k, k + j = len → ∃ s d, scn T k = some (s, d) := by
    intro j
    induction j with
    | zero => intro k hk; subst hk; exact ⟨1, 0, h⟩
    | succ j ih =>
      intro k hk
      obtain ⟨s, d, e⟩ := ih (k + 1) (by omega)
      obtain ⟨s', d', e', -⟩ := scn_some e
      exact ⟨s', d', e'⟩
  intro k hk
  exact this (len - k) k (by omega)
theorem scn_step {T : Nat → Nat} {len k : Nat} (h : WF T len) (hk : k < len) : ∃ s d s' d', scn T k = some (s, d) ∧ tst (T k) s d = some (s', d') ∧ scn T (k + 1) = some (s', d') := by
  obtain ⟨s', d', e⟩ := scn_all h (k + 1) (by omega)
  obtain ⟨s, d, e1, e2⟩ := scn_some e
  exact ⟨s, d, s', d', e1, e2, e⟩
theorem fltF_wf {T : Nat → Nat} : ∀ n k s d, k + n < 2147483648 → scn T k = some (s, d) → (fltF T n k s d = -1 ↔ scn T (k + n) = some (1, 0)) := by
  intro n
  have hneg : ∀ k, k < 2147483648 → ¬ nI k = (-1 : Int32) := by
    intro k hk e
    have h1 := nI_toInt (n := k) (by omega)
    rw [e] at h1
    have h2 : (-1 : Int32).toInt = -1 := rfl
    omega
  induction n with
  | zero =>
    intro k s d hk h
    unfold fltF
    rw [Nat.add_zero, h]
    by_cases c : s = 1 ∧ d = 0
    · rw [if_pos c, c.1, c.2]; exact ⟨fun _ => rfl, fun _ => rfl⟩
    · rw [if_neg c]
      refine ⟨fun e => absurd e (hneg k (by omega)), fun e => absurd ?_ c⟩
      simpa using e
  | succ n ih =>
    intro k s d hk h
    unfold fltF
    have hs : scn T (k + 1) = tst (T k) s d := by
      show (match scn T k with | none => none | some p => tst (T k) p.1 p.2) = _
      rw [h]
    cases ht : tst (T k) s d with
    | none =>
      refine ⟨fun e => absurd e (hneg k (by omega)), fun e => ?_⟩
      rw [ht] at hs
      have : ∀ j, scn T (k + 1 + j) = none := by
        intro j
        induction j with
        | zero => exact hs
        | succ j ihj =>
          show (match scn T (k + 1 + j) with | none => none | some p => tst (T (k + 1 + j)) p.1 p.2) = _
          rw [ihj]
      rw [show k + (n + 1) = k + 1 + n from by omega, this n] at e
      cases e
    | some p =>
      obtain ⟨s', d'⟩ := p
      rw [ht] at hs
      show fltF T n (k + 1) s' d' = -1 ↔ _
      rw [ih (k + 1) s' d' (by omega) hs, show k + (n + 1) = k + 1 + n from by omega]
theorem flt_wf {T : Nat → Nat} {len : Nat} (h : len ≤ 24) : flt T len = -1 ↔ WF T len := by
  have := fltF_wf (T := T) len 0 0 0 (by omega) rfl
  rw [Nat.zero_add] at this
  exact this

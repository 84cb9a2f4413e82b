/-! p32: faults; the texts that the law lays -/
theorem m1_ne {p : Nat} (h : p < 2147483648) : ¬ (-1 : Int32) = nI p := by
  rw [ieq, nI_toInt h]
  have : (-1 : Int32).toInt = -1 := rfl
  omega
theorem fltF_pre {T : Nat → Nat} : ∀ n k s d p, k + n < 2147483648 → p < 2147483648 → fltF T n k s d = nI p → (k ≤ p ∧ p ≤ k + n) ∧ (∀ n', k + n' = p → fltF T n' k s d = -1 ∨ fltF T n' k s d = nI p) ∧ (p < k + n → ∀ n', k + n' = p + 1 → fltF T n' k s d = nI p) := by
  intro n
  induction n with
  | zero =>
    intro k s d p h1 h2 h
    unfold fltF at h
    by_cases g : s = 1 ∧ d = 0
    · rw [if_pos g] at h; exact absurd h (m1_ne h2)
    · rw [if_neg g] at h
      have : k = p := nI_i (by omega) h2 h
      subst this
      refine ⟨⟨Nat.le_refl _, by omega⟩, fun n' hn => ?_, fun hh => by omega⟩
      have : n' = 0 := by omega
      subst this
      right; unfold fltF; rw [if_neg g]
  | succ n ih =>
    intro k s d p h1 h2 h
    unfold fltF at h
    cases e : tst (T k) s d with
    | none =>
      rw [e] at h
      have : k = p := nI_i (by omega) h2 h
      subst this
      refine ⟨⟨Nat.le_refl _, by omega⟩, fun n' hn => ?_, fun _ n' hn => ?_⟩
      · have : n' = 0 := by omega
        subst this
        unfold fltF
        by_cases g : s = 1 ∧ d = 0
        · rw [if_pos g]; exact Or.inl rfl
        · rw [if_neg g]; exact Or.inr rfl
      · have : n' = 0 + 1 := by omega
        subst this
        unfold fltF
        rw [e]
    | some q =>
      rw [e] at h
      obtain ⟨⟨a1, a2⟩, a3, a4⟩ := ih (k + 1) q.1 q.2 p (by omega) h2 h
      refine ⟨⟨by omega, by omega⟩, fun n' hn => ?_, fun hh n' hn => ?_⟩
      · obtain ⟨n', rfl⟩ : ∃ z, n' = z + 1 := ⟨n' - 1, by omega⟩
        have : fltF T (n' + 1) k s d = fltF T n' (k + 1) q.1 q.2 := by
          show (match tst (T k) s d with | none => nI k | some p => fltF T n' (k + 1) p.1 p.2) = _
          rw [e]
        rw [this]
        exact a3 n' (by omega)
      · obtain ⟨n', rfl⟩ : ∃ z, n' = z + 1 := ⟨n' - 1, by omega⟩
        have : fltF T (n' + 1) k s d = fltF T n' (k + 1) q.1 q.2 := by
          show (match tst (T k) s d with | none => nI k | some p => fltF T n' (k + 1) p.1 p.2) = _
          rw [e]
        rw [this]
        exact a4 (by omega) n' (by omega)
theorem fltF_or {T : Nat → Nat} : ∀ n k s d, fltF T n k s d = -1 ∨ ∃ p, p ≤ k + n ∧ fltF T n k s d = nI p := by
  intro n
  induction n with
  | zero =>
    intro k s d
    unfold fltF
    by_cases g : s = 1 ∧ d = 0
    · rw [if_pos g]; exact Or.inl rfl
    · rw [if_neg g]; exact Or.inr ⟨k, by omega, rfl⟩
  | succ n ih =>
    intro k s d
    unfold fltF
    cases e : tst (T k) s d with
    | none => exact Or.inr ⟨k, by omega, rfl⟩
    | some q =>
      rcases ih (k + 1) q.1 q.2 with h | ⟨p, h1, h2⟩
      · exact Or.inl h
      · exact Or.inr ⟨p, by omega, h2⟩
section ISF
variable {t : Nat} {w m : Wt} {nE bn rn vn : Nat}
theorem s_isFault (h : Inv t w m) (c : Cn m nE bn rn vn) {many : Nat} {T : Nat → Nat} (hm : many ≤ 23) (hT : ∀ k, k < many → w 72 k = nI (T k) ∧ T k < 128 ∧ tyB (T k) = true) : ∃ w' m', l_isFault (nI many) w = some (1, w') ∧ Inv (t + 100) w' m' ∧ Fr [6] [8] m m' ∧ ∀ i, 72 ≤ i → w' i = w i := by
  obtain ⟨w1, m1, e1, i1, f1, ⟨p1, q1⟩, k1⟩ := s_types h (show many ≤ 24 by omega) hT
  have X1 : Tx m1 T many := ⟨by omega, p1, fun k hk => ⟨q1 k hk, by have := (hT k hk).2.1; omega⟩⟩
  have c1 : Cn m1 nE bn rn vn := c.fr f1 (by simp)
  obtain ⟨w2, m2, e2, i2, f2⟩ := s_mend8 i1 c1
  have X2 : Tx m2 T many := X1.fr f2 (by simp) (by simp)
  have hfa := s_fault i1 X1
  unfold l_isFault
  rw [e1, bnd_eq, nmd_eq, nmd_eq]
  (try dsimp only)
  rw [hfa, bnd_eq, if_neg (show ¬ (1 : Int32) = 0 from by decide)]
  rcases fltF_or (T := T) many 0 0 0 with g | ⟨p, hp, g⟩
  · have g' : flt T many = -1 := g
    rw [g', if_neg (by decide), if_neg (by rw [ilt, nI_toInt (by omega)]; have : (-1 : Int32).toInt = -1 := rfl; omega), e2, bnd_eq, nmd_eq, if_pos rfl]
    unfold l_isFault_b45
    refine ⟨jn w2 w1, m2, ?_, (i2.up (by omega)).jn, f1.t2 (f2.up (by simp) (by simp)), fun i hi => by rw [jn_hi hi]; exact k1 i hi⟩
    rw [if_neg (by decide), if_pos (by decide)]
    rfl
  · have g' : flt T many = nI p := g
    rw [g', if_neg (by rw [ilt, nI_toInt (by omega)]; have : (-1 : Int32).toInt = -1 := rfl; omega), if_neg (by rw [nl_lt (by omega) (by omega)]; omega), e2, bnd_eq, nmd_eq, if_pos rfl]
    obtain ⟨⟨-, a1⟩, a2, a3⟩ := fltF_pre many 0 0 0 p (by omega) (by omega) g
    have hne : flt T many ≠ -1 := by rw [g']; exact fun e => m1_ne (show p < 2147483648 by omega) e.symm
    obtain ⟨w3, m3, e3, i3, f3⟩ := s_ruleX i2.jn (w := jn w2 w1) X2 hne
    have H3 : ∀ i, 72 ≤ i → jn w3 (jn w2 w1) i = w i := fun i hi => by rw [jn_hi hi, jn_hi hi]; exact k1 i hi
    obtain ⟨w4, m4, e4, i4, f4, ⟨p4, q4⟩, k4⟩ := s_types (w := jn w3 (jn w2 w1)) i3.jn (show p ≤ 24 by omega) (T := T) (fun k hk => by rw [H3 72 (by omega)]; exact hT k (by omega))
    have X4 : Tx m4 T p := ⟨by omega, p4, fun k hk => ⟨q4 k hk, by have := (hT k (by omega)).2.1; omega⟩⟩
    have hf4 := s_fault i4 X4
    have hflt : flt T p = -1 ∨ flt T p = nI p := a2 p (by omega)
    have H4 : ∀ i, 72 ≤ i → w4 i = w i := fun i hi => by rw [k4 i hi]; exact H3 i hi
    have FF : Fr [6] [8] m m4 := ((f1.t2 (f2.up (by simp) (by simp))).t2 (f3.up (by simp) (by simp))).t2 f4
    have hb : ∃ w' m', l_isFault_b91 (nI many) (nI p) w4 = some (1, w') ∧ Inv (t + 100) w' m' ∧ Fr [6] [8] m m' ∧ ∀ i, 72 ≤ i → w' i = w i := by
      unfold l_isFault_b91
      by_cases z : p = many
      · subst z
        rw [if_pos rfl]
        exact ⟨w4, m4, rfl, i4.up (by omega), FF, H4⟩
      · rw [if_neg (by rw [nl_eq (by omega) (by omega)]; exact z)]
        obtain ⟨w5, m5, e5, i5, f5, ⟨p5, q5⟩, k5⟩ := s_types i4 (show p + 1 ≤ 24 by omega) (T := T) (fun k hk => by rw [H4 72 (by omega)]; exact hT k (by omega))
        have X5 : Tx m5 T (p + 1) := ⟨by omega, p5, fun k hk => ⟨q5 k hk, by have := (hT k (by omega)).2.1; omega⟩⟩
        have hf5 : flt T (p + 1) = nI p := a3 (by omega) (p + 1) (by omega)
        rw [nI_1, e5, bnd_eq, nmd_eq]
        (try dsimp only)
        rw [if_neg (show ¬ (1 : Int32) = 0 from by decide), s_fault i5 X5, bnd_eq, hf5, if_pos rfl]
        exact ⟨w5, m5, rfl, i5.up (by omega), FF.t2 f5, fun i hi => by rw [k5 i hi]; exact H4 i hi⟩
    unfold l_isFault_b45
    rw [if_neg (by decide), if_neg (nl_neg (by omega)), e3, bnd_eq, nmd_eq]
    (try dsimp only)
    rw [if_pos rfl, e4, bnd_eq, nmd_eq]
    (try dsimp only)
    rw [if_neg (show ¬ (1 : Int32) = 0 from by decide), hf4, bnd_eq]
    rcases hflt with z | z
    · rw [z, if_pos rfl]; exact hb
    · rw [z, if_neg (fun e => m1_ne (show p < 2147483648 by omega) e.symm), bnd_eq, if_pos rfl]; exact hb
end ISF
/-! a text in the law's own array -/
def Tw (w : Wt) (j : Nat) : Nat := (w 72 j).toNatClampNeg
theorem scn_c {T T' : Nat → Nat} : ∀ k, (∀ j, j < k → T j = T' j) → scn T k = scn T' k := by
  intro k
  induction k with
  | zero => intro _; rfl
  | succ k ih =>
    intro h
    show (match scn T k with | none => none | some p => tst (T k) p.1 p.2) = (match scn T' k with | none => none | some p => tst (T' k) p.1 p.2)
    rw [ih (fun j hj => h j (by omega)), h k (by omega)]
def LY (w : Wt) (p k s d : Nat) : Prop := (∀ j, j < p → w 72 j = nI (Tw w j) ∧ Tw w j < 128 ∧ tyB (Tw w j) = true) ∧ scn (Tw w) p = some (s, d) ∧ cntS (fun j => decide (Tw w j = 59)) p = k
theorem Tw_u {w : Wt} {p x j : Nat} (hx : x < 128) : Tw (upd2 w 72 p (nI x)) j = if j = p then x else Tw w j := by
  unfold Tw
  rw [upd2_at, if_pos rfl]
  by_cases g : j = p
  · rw [if_pos g, if_pos g, nl_cl (by omega)]
  · rw [if_neg g, if_neg g]
theorem LY.far {w : Wt} {p k s d r x : Nat} (h : LY w p k s d) (hr : p ≤ r) (hx : x < 128) : LY (upd2 w 72 r (nI x)) p k s d := by
  obtain ⟨h1, h2, h3⟩ := h
  have e : ∀ j, j < p → Tw (upd2 w 72 r (nI x)) j = Tw w j := fun j hj => by rw [Tw_u hx, if_neg (by omega)]
  refine ⟨fun j hj => ?_, by rw [scn_c p e]; exact h2, by rw [cntS_c (fun j hj => by rw [e j hj])]; exact h3⟩
  rw [e j hj, upd2_at, if_pos rfl, if_neg (by omega)]
  exact h1 j hj
theorem LY.put {w : Wt} {p k s d x s' d' : Nat} (h : LY w p k s d) (hx : x < 128) (ht : tyB x = true) (hs : tst x s d = some (s', d')) : LY (upd2 w 72 p (nI x)) (p + 1) (k + if x = 59 then 1 else 0) s' d' := by
  obtain ⟨h1, h2, h3⟩ := h.far (Nat.le_refl p) hx
  have ep : Tw (upd2 w 72 p (nI x)) p = x := by rw [Tw_u hx, if_pos rfl]
  refine ⟨fun j hj => ?_, ?_, ?_⟩
  · by_cases g : j = p
    · subst g
      rw [ep, upd2_at, if_pos rfl, if_pos rfl]
      exact ⟨rfl, hx, ht⟩
    · exact h1 j (by omega)
  · show (match scn (Tw (upd2 w 72 p (nI x))) p with | none => none | some q => tst (Tw (upd2 w 72 p (nI x)) p) q.1 q.2) = _
    rw [h2, ep]; exact hs
  · show cntS _ p + (if decide (Tw (upd2 w 72 p (nI x)) p = 59) = true then 1 else 0) = _
    rw [h3, ep]
    by_cases g : x = 59
    · rw [if_pos g, decide_eq_true g, if_pos rfl]
    · rw [if_neg g, decide_eq_false g, if_neg (by decide)]
theorem plT {x s d : Nat} (hpl : plN x = true) (hs : s < 2) : tst x s d = some (2, d) := by
  have h : x = 116 ∨ x = 98 ∨ x = 97 ∨ x = 109 ∨ x = 120 ∨ x = 114 ∨ x = 108 ∨ x = 104 ∨ x = 113 := of_decide_eq_true hpl
  have hs' : s = 0 ∨ s = 1 := by omega
  rcases h with rfl | rfl | rfl | rfl | rfl | rfl | rfl | rfl | rfl <;> rcases hs' with rfl | rfl <;> rfl
theorem plU : ∀ x, x < 128 → plN x = true → tyB x = true ∧ ¬ x = 59 := by decide +kernel
theorem tst59 : ∀ d, d < 3 → tst 59 2 d = some (1, d) := by decide +kernel
theorem tst40 : ∀ s, s < 2 → ∀ d, d < 2 → tst 40 s d = some (0, d + 1) := by decide +kernel
theorem n_rem {a d : Nat} (ha : a < 2147483648) (h0 : 0 < d) (hd : d < 2147483648) : nI a - nI a / nI d * nI d = nI (a % d) := pk_rem ha h0 hd
/-- one command of a laid text -/
theorem ly_b44 {p left o k : Nat} {w : Wt} (hl : left < 2147483648) : ∃ x, x < 128 ∧ plN x = true ∧ l_lays_b44 (nI p) (nI left) (nI o) (nI k) w = l_lays_b124 (nI p) (nI left) (nI o) (nI k) (nI x) (nI p) w := by
  have e1 : nI left / (5 : Int32) = nI (left / 5) := pk_div (d := 5) hl (by omega) (by omega)
  have hl5 : left / 5 < 2147483648 := by omega
  have e2 : nI (left / 5) - nI (left / 5) / (9 : Int32) * (9 : Int32) = nI (left / 5 % 9) := pk_rem (d := 9) hl5 (by omega) (by omega)
  have hz : left / 5 % 9 < 9 := Nat.mod_lt _ (by omega)
  unfold l_lays_b44
  rw [show nzb (5 : Int32) = true from by decide, gd_t, show nzb (9 : Int32) = true from by decide, gd_t, nmd_eq, e1, e2]
  generalize left / 5 % 9 = z at hz
  match z, hz with
  | 0, _ => exact ⟨116, by omega, by decide, rfl⟩
  | 1, _ => exact ⟨116, by omega, by decide, rfl⟩
  | 2, _ => exact ⟨116, by omega, by decide, rfl⟩
  | 3, _ => exact ⟨98, by omega, by decide, rfl⟩
  | 4, _ => exact ⟨120, by omega, by decide, rfl⟩
  | 5, _ => exact ⟨109, by omega, by decide, rfl⟩
  | 6, _ => exact ⟨113, by omega, by decide, rfl⟩
  | 7, _ => exact ⟨104, by omega, by decide, rfl⟩
  | 8, _ => exact ⟨97, by omega, by decide, rfl⟩
  | n + 9, h => exact absurd h (by omega)
/-- where the text stands behind k rounds -/
def LQ (p k o : Nat) : Prop := o ≤ 1 ∧ p ≤ 19 ∧ (k ≤ 4 → p + o ≤ 4 * k) ∧ (k = 5 → p ≤ 18)
theorem ly_b124 {p left o k s : Nat} {w : Wt} (hl : left < 2147483648) (hs : s ≤ 1) (ho : o ≤ 1) (hp : p ≤ 18) (h : LY w p k s o) {x : Nat} (hx : x < 128) (hpl : plN x = true) : ∃ p' o' w', l_lays_b124 (nI p) (nI left) (nI o) (nI k) (nI x) (nI p) w = some (.inl (nI p', nI (left / 11), nI o', nI (k + 1), w')) ∧ LY w' p' (k + 1) 1 o' ∧ ((p' = p + 2 ∧ o' = o) ∨ (p' = p + 3 ∧ o = 1 ∧ o' = 0)) ∧ ∀ i, i ≠ 72 → w' i = w i := by
  have y1 : tst x s o = some (2, o) := plT hpl (by omega)
  obtain ⟨y2, y3⟩ := plU x hx hpl
  have h1 := h.put hx y2 y1
  rw [if_neg y3, Nat.add_zero] at h1
  have h2 := h1.put (x := 59) (by omega) (by decide) (tst59 o (by omega))
  rw [if_pos rfl] at h2
  have i1 : inb (nI p) 24 = true := nl_in (by omega) (by omega)
  have i2 : (nI p).toNatClampNeg = p := nl_cl (by omega)
  have i3 : nI p + (1 : Int32) = nI (p + 1) := nI_add p 1
  have i4 : inb (nI (p + 1)) 24 = true := nl_in (by omega) (by omega)
  have i5 : (nI (p + 1)).toNatClampNeg = p + 1 := nl_cl (by omega)
  have i6 : nI p + (2 : Int32) = nI (p + 2) := nI_add p 2
  have i7 : inb (nI (p + 2)) 24 = true := nl_in (by omega) (by omega)
  have i8 : (nI (p + 2)).toNatClampNeg = p + 2 := nl_cl (by omega)
  have i9 : nI left / (11 : Int32) = nI (left / 11) := pk_div (d := 11) hl (by omega) (by omega)
  have i10 : nI left - nI left / (7 : Int32) * (7 : Int32) = nI (left % 7) := pk_rem (d := 7) hl (by omega) (by omega)
  have i11 : nzb (11 : Int32) = true := by decide
  have i12 : nzb (7 : Int32) = true := by decide
  have i13 : nI (p + 2) + (1 : Int32) = nI (p + 3) := nI_add (p + 2) 1
  have i14 : nI k + (1 : Int32) = nI (k + 1) := nI_add k 1
  have hm7 : left % 7 < 2147483648 := by omega
  have keep : ∀ i, i ≠ 72 → upd2 (upd2 w 72 p (nI x)) 72 (p + 1) (nI 59) i = w i := fun i hi => by rw [upd2_n hi, upd2_n hi]
  by_cases g : o = 0
  · subst g
    refine ⟨p + 2, 0, _, ?_, h2, Or.inl ⟨rfl, rfl⟩, keep⟩
    unfold l_lays_b124
    simp only [i1, gd_t, i2, nmd_eq, i3, i4, i5, i6, i9, i11, i14, show nI 0 = (0 : Int32) from rfl, ↓reduceIte]
    rfl
  · have : o = 1 := by omega
    subst this
    by_cases g2 : 3 ≤ left % 7
    · refine ⟨p + 2, 1, _, ?_, h2, Or.inl ⟨rfl, rfl⟩, keep⟩
      unfold l_lays_b124
      simp only [i1, gd_t, i2, nmd_eq, i3, i4, i5, i6, i9, i10, i11, i12, i14, show ¬ nI 1 = (0 : Int32) from by decide, qb_3 hm7, g2, ↓reduceIte]
      rfl
    · have h3 := h2.put (x := 41) (by omega) (by decide) (show tst 41 1 1 = some (1, 0) from by decide)
      rw [if_neg (by decide), Nat.add_zero] at h3
      refine ⟨p + 3, 0, _, ?_, h3, Or.inr ⟨rfl, rfl, rfl⟩, fun i hi => by rw [upd2_n hi]; exact keep i hi⟩
      unfold l_lays_b124
      simp only [i1, gd_t, i2, nmd_eq, i3, i4, i5, i6, i7, i8, i9, i10, i11, i12, i13, i14, show ¬ nI 1 = (0 : Int32) from by decide, qb_3 hm7, g2, ↓reduceIte]
      rfl
theorem ly_step {p left o k s : Nat} {w : Wt} (hl : left < 2147483648) (hs : s ≤ 1) (hk : k < 5) (hq : LQ p k o) (h : LY w p k s o) : ∃ p' o' w', l_lays_L10 (nI p, nI left, nI o, nI k, w) = some (.inl (nI p', nI (left / 11), nI o', nI (k + 1), w')) ∧ LY w' p' (k + 1) 1 o' ∧ LQ p' (k + 1) o' ∧ ∀ i, i ≠ 72 → w' i = w i := by
  obtain ⟨q1, q2, q3, q4⟩ := hq
  have q3 := q3 (by omega)
  have e0 : ¬ (5 : Int32) ≤ nI k := by rw [qb_5 (by omega)]; omega
  have e1 : nI left - nI left / (5 : Int32) * (5 : Int32) = nI (left % 5) := pk_rem (d := 5) hl (by omega) (by omega)
  have hm5 : left % 5 < 2147483648 := by omega
  have z5 : nzb (5 : Int32) = true := by decide
  have noB : ∃ p' o' w', l_lays_b44 (nI p) (nI left) (nI o) (nI k) w = some (.inl (nI p', nI (left / 11), nI o', nI (k + 1), w')) ∧ LY w' p' (k + 1) 1 o' ∧ LQ p' (k + 1) o' ∧ ∀ i, i ≠ 72 → w' i = w i := by
    obtain ⟨x, x1, x2, x3⟩ := ly_b44 (p := p) (left := left) (o := o) (k := k) (w := w) hl
    obtain ⟨p', o', w', y1, y2, y3, y4⟩ := ly_b124 hl hs q1 (by omega) h x1 x2
    refine ⟨p', o', w', by rw [x3]; exact y1, y2, ?_, y4⟩
    unfold LQ
    omega
  by_cases g : left % 5 = 0
  · by_cases g2 : o = 0
    · subst g2
      by_cases g3 : 4 ≤ k
      · obtain ⟨p', o', w', y1, y2⟩ := noB
        refine ⟨p', o', w', ?_, y2⟩
        rw [← y1]
        simp only [l_lays_L10, e0, ↓reduceIte, z5, gd_t, e1, g, show nI 0 = (0 : Int32) from rfl, qb_4 (show k < 2147483648 by omega), g3]
      · have h1 : LY (upd2 w 72 p (nI 40)) (p + 1) k 0 1 := h.put (x := 40) (by omega) (by decide) (tst40 s (by omega) 0 (by omega))
        have i1 : inb (nI p) 24 = true := nl_in (by omega) (by omega)
        have i2 : (nI p).toNatClampNeg = p := nl_cl (by omega)
        obtain ⟨x, x1, x2, x3⟩ := ly_b44 (p := p + 1) (left := left) (o := 1) (k := k) (w := upd2 w 72 p (nI 40)) hl
        obtain ⟨p', o', w', y1, y2, y3, y4⟩ := ly_b124 hl (by omega) (by omega) (by omega) h1 x1 x2
        refine ⟨p', o', w', ?_, y2, ?_, fun i hi => by rw [y4 i hi, upd2_n hi]⟩
        · rw [← y1, ← x3]
          simp only [l_lays_L10, e0, ↓reduceIte, z5, gd_t, e1, g, show nI 0 = (0 : Int32) from rfl, qb_4 (show k < 2147483648 by omega), g3, i1, i2, nmd_eq, nI_1]
          rfl
        · unfold LQ
          omega
    · obtain ⟨p', o', w', y1, y2⟩ := noB
      refine ⟨p', o', w', ?_, y2⟩
      rw [← y1]
      simp only [l_lays_L10, e0, ↓reduceIte, z5, gd_t, e1, g, show nI 0 = (0 : Int32) from rfl, qe_0 (show o < 2147483648 by omega), g2]
  · obtain ⟨p', o', w', y1, y2⟩ := noB
    refine ⟨p', o', w', ?_, y2⟩
    rw [← y1]
    simp only [l_lays_L10, e0, ↓reduceIte, z5, gd_t, e1, qe_0 hm5, g]
theorem ly_end {p o : Nat} {w : Wt} (ho : o ≤ 1) (hp : p ≤ 18) (h : LY w p 5 1 o) : ∃ n w', l_lays_b170 (nI p) (nI o) w = some (nI n, w') ∧ n ≤ 21 ∧ LY w' n 6 1 0 ∧ ∀ i, i ≠ 72 → w' i = w i := by
  have i1 : inb (nI p) 24 = true := nl_in (by omega) (by omega)
  have i2 : (nI p).toNatClampNeg = p := nl_cl (by omega)
  have i3 : nI p + (1 : Int32) = nI (p + 1) := nI_add p 1
  have i4 : inb (nI (p + 1)) 24 = true := nl_in (by omega) (by omega)
  have i5 : (nI (p + 1)).toNatClampNeg = p + 1 := nl_cl (by omega)
  have i6 : nI p + (2 : Int32) = nI (p + 2) := nI_add p 2
  have i7 : inb (nI (p + 2)) 24 = true := nl_in (by omega) (by omega)
  have i8 : (nI (p + 2)).toNatClampNeg = p + 2 := nl_cl (by omega)
  have i9 : nI p + (3 : Int32) = nI (p + 3) := nI_add p 3
  by_cases g : o = 0
  · subst g
    have h1 := h.put (x := 114) (by omega) (by decide) (show tst 114 1 0 = some (2, 0) from by decide)
    rw [if_neg (by decide), Nat.add_zero] at h1
    have h2 := h1.put (x := 59) (by omega) (by decide) (tst59 0 (by omega))
    rw [if_pos rfl] at h2
    have h3 := h2.far (r := p + 2) (x := 59) (by omega) (by omega)
    refine ⟨p + 2, _, ?_, by omega, h3, fun i hi => by rw [upd2_n hi, upd2_n hi, upd2_n hi]⟩
    unfold l_lays_b170 l_lays_b184 l_lays_b201
    simp only [i1, gd_t, i2, nmd_eq, i3, i4, i5, i6, i7, i8, show nI 0 = (0 : Int32) from rfl, ↓reduceIte]
    rfl
  · have : o = 1 := by omega
    subst this
    have h0 := h.put (x := 41) (by omega) (by decide) (show tst 41 1 1 = some (1, 0) from by decide)
    rw [if_neg (by decide), Nat.add_zero] at h0
    have h1 := h0.put (x := 114) (by omega) (by decide) (show tst 114 1 0 = some (2, 0) from by decide)
    rw [if_neg (by decide), Nat.add_zero] at h1
    have h2 := h1.put (x := 59) (by omega) (by decide) (tst59 0 (by omega))
    rw [if_pos rfl] at h2
    refine ⟨p + 3, _, ?_, by omega, h2, fun i hi => by rw [upd2_n hi, upd2_n hi, upd2_n hi]⟩
    unfold l_lays_b170 l_lays_b184 l_lays_b201
    simp only [i1, gd_t, i2, nmd_eq, i3, i4, i5, i6, i7, i8, i9, show ¬ nI 1 = (0 : Int32) from by decide, ↓reduceIte]
    rfl
theorem s_lays {number : Nat} (hn : number < 2147483648) (w : Wt) : ∃ n w', l_lays (nI number) w = some (nI n, w') ∧ n ≤ 21 ∧ LY w' n 6 1 0 ∧ ∀ i, i ≠ 72 → w' i = w i := by
  have go : ∀ d k fuel p left o s w2, k + d = 5 → d < fuel → left < 2147483648 → s ≤ 1 → (d = 0 → s = 1) → LQ p k o → LY w2 p k s o → (∀ i, i ≠ 72 → w2 i = w i) → ∃ p' o' w3, lp l_lays_L10 fuel (nI p, nI left, nI o, nI k, w2) = some (nI p', nI o', w3) ∧ LY w3 p' 5 1 o' ∧ LQ p' 5 o' ∧ ∀ i, i ≠ 72 → w3 i = w i := by
    intro d
    induction d with
    | zero =>
      intro k fuel p left o s w2 s1 s2 s3 s4 s5 s6 s7 s8
      obtain ⟨fuel, rfl⟩ : ∃ f, fuel = f + 1 := ⟨fuel - 1, by omega⟩
      have : k = 5 := by omega
      subst this
      have : s = 1 := s5 rfl
      subst this
      refine ⟨p, o, w2, ?_, s7, s6, s8⟩
      unfold lp; simp only [l_lays_L10, show (5 : Int32) ≤ nI 5 from by decide, ↓reduceIte] <;> rfl
    | succ d ih =>
      intro k fuel p left o s w2 s1 s2 s3 s4 s5 s6 s7 s8
      obtain ⟨fuel, rfl⟩ : ∃ f, fuel = f + 1 := ⟨fuel - 1, by omega⟩
      obtain ⟨p1, o1, w4, y1, y2, y3, y4⟩ := ly_step s3 s4 (by omega) s6 s7
      obtain ⟨p', o', w3, r1, r2⟩ := ih (k + 1) fuel p1 (left / 11) o1 1 w4 (by omega) (by omega) (by omega) (by omega) (fun _ => rfl) y3 y2 (fun i hi => by rw [y4 i hi]; exact s8 i hi)
      refine ⟨p', o', w3, ?_, r2⟩
      show Option.bind _ _ = _
      rw [y1, bnd_eq]
      exact r1
  obtain ⟨p, o, w3, r1, r2, r3, r4⟩ := go 5 0 FU 0 number 0 0 w (by omega) (by show _ < 100000; omega) hn (by omega) (fun h => by omega) ⟨by omega, by omega, fun _ => by omega, fun h => by omega⟩ ⟨fun j hj => absurd hj (Nat.not_lt_zero j), rfl, rfl⟩ (fun _ _ => rfl)
  obtain ⟨q1, q2, q3, q4⟩ := r3
  obtain ⟨n, w', e1, e2, e3, e4⟩ := ly_end q1 (q4 rfl) r2
  refine ⟨n, w', ?_, e2, e3, fun i hi => by rw [e4 i hi]; exact r4 i hi⟩
  unfold l_lays
  rw [show ((0 : Int32), nI number, (0 : Int32), (0 : Int32), w) = (nI 0, nI number, nI 0, nI 0, w) from rfl, r1, bnd_eq]
  exact e1
theorem s_sign {n : Nat} (hn : n < 2147483648) : ∃ x, x < 128 ∧ tyB x = true ∧ l_sign (nI n) = some (nI x) := by
  have e1 : nI n - nI n / (20 : Int32) * (20 : Int32) = nI (n % 20) := pk_rem (d := 20) hn (by omega) (by omega)
  have e2 : nI n / (20 : Int32) = nI (n / 20) := pk_div (d := 20) hn (by omega) (by omega)
  have e3 : nI (n / 20) - nI (n / 20) / (10 : Int32) * (10 : Int32) = nI (n / 20 % 10) := pk_rem (d := 10) (by omega) (by omega) (by omega)
  have hz : n % 20 < 20 := Nat.mod_lt _ (by omega)
  have hy : n / 20 % 10 < 10 := Nat.mod_lt _ (by omega)
  have hdg : ∀ y, y < 10 → tyB (48 + y) = true := by decide
  have last : l_sign_b87 (nI n) (nI 18) (0 : Int32) = some (nI (48 + n / 20 % 10)) ∧ l_sign_b87 (nI n) (nI 19) (0 : Int32) = some (nI (48 + n / 20 % 10)) := by
    refine ⟨?_, ?_⟩ <;>
    · unfold l_sign_b87
      rw [if_pos (by decide), if_pos (by decide), if_neg (by decide), if_neg (by decide), if_neg (by decide), if_neg (by decide), show nzb (20 : Int32) = true from by decide, gd_t, show nzb (10 : Int32) = true from by decide, gd_t, e2, e3, show (48 : Int32) = nI 48 from rfl, nI_add]
  unfold l_sign
  rw [show nzb (20 : Int32) = true from by decide, gd_t, nmd_eq, e1]
  generalize n % 20 = z at hz
  match z, hz with
  | 0, _ => exact ⟨116, by omega, by decide, rfl⟩
  | 1, _ => exact ⟨98, by omega, by decide, rfl⟩
  | 2, _ => exact ⟨97, by omega, by decide, rfl⟩
  | 3, _ => exact ⟨109, by omega, by decide, rfl⟩
  | 4, _ => exact ⟨120, by omega, by decide, rfl⟩
  | 5, _ => exact ⟨114, by omega, by decide, rfl⟩
  | 6, _ => exact ⟨113, by omega, by decide, rfl⟩
  | 7, _ => exact ⟨104, by omega, by decide, rfl⟩
  | 8, _ => exact ⟨59, by omega, by decide, rfl⟩
  | 9, _ => exact ⟨59, by omega, by decide, rfl⟩
  | 10, _ => exact ⟨59, by omega, by decide, rfl⟩
  | 11, _ => exact ⟨59, by omega, by decide, rfl⟩
  | 12, _ => exact ⟨59, by omega, by decide, rfl⟩
  | 13, _ => exact ⟨59, by omega, by decide, rfl⟩
  | 14, _ => exact ⟨40, by omega, by decide, rfl⟩
  | 15, _ => exact ⟨41, by omega, by decide, rfl⟩
  | 16, _ => exact ⟨101, by omega, by decide, rfl⟩
  | 17, _ => exact ⟨107, by omega, by decide, rfl⟩
  | 18, _ => exact ⟨48 + n / 20 % 10, by omega, hdg _ hy, last.1⟩
  | 19, _ => exact ⟨48 + n / 20 % 10, by omega, hdg _ hy, last.2⟩
  | k + 20, h => exact absurd h (by omega)
theorem s_cell {L : Nat} {xs : Nat → Int32} (hL : L ≤ 260) (k : Nat) (hk : k < 2147483648) : ∃ c, c < 2147483648 ∧ l_cell xs L (nI k) = some (nI c) := by
  have hand : ∀ x : Int32, ∃ c, c < 2147483648 ∧ x &&& 2147483647 = nI c := fun x => by
    obtain ⟨j, hj, e⟩ := pk_andE x (m := 2147483647) 31 (by decide)
    exact ⟨j, hj, e⟩
  unfold l_cell
  by_cases g : Int32.ofNat L ≤ nI k
  · rw [if_pos g]
    obtain ⟨c, h1, h2⟩ := hand ((61027 : Int32) * (nI k - nI k / 6211 * 6211) + 3109)
    exact ⟨c, h1, by rw [h2]⟩
  · have g2 : k < L := by
      have := nl_le (a := L) (b := k) (by omega) hk
      have g3 : ¬ nI L ≤ nI k := g
      rw [this] at g3; omega
    rw [if_neg g, nl_in g2 (by omega), gd_t]
    obtain ⟨c, h1, h2⟩ := hand (xs (nI k).toNatClampNeg)
    exact ⟨c, h1, by rw [h2]⟩

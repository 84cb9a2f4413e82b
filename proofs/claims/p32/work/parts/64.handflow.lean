/-! BY HAND: a row that calls itself at each bracket -/
section HFLOW
variable {rd : Nat → Nat → Nat} {ln : Nat → Nat} {l : List Nat} {T : Nat → Nat} {len n0 r : Nat}
def kpH (w w' : Wt) : Prop := ∀ i, i < 28 ∨ 31 < i → w' i = w i
theorem kpH.rfl' {w : Wt} : kpH w w := fun _ _ => rfl
theorem kpH.tr {a b c : Wt} (h : kpH a b) (g : kpH b c) : kpH a c := fun i hi => (g i hi).trans (h i hi)
def RuH (w : Wt) (r : Nat) (T : Nat → Nat) (len : Nat) : Prop := w (32 + r) 3 = nI len ∧ ∀ j, j < len → w (40 + r) j = nI (T j)
def HSt (w : Wt) (rd : Nat → Nat → Nat) (ln : Nat → Nat) (l : List Nat) (T : Nat → Nat) (len r : Nat) (σ : CS) : Prop := HC w σ ∧ GA w l ∧ BXc w rd ln l ∧ RuH w r T len
theorem HSt.kp {w w' : Wt} {σ σ' : CS} (h : HSt w rd ln l T len r σ) (k : kpH w w') (hC : HC w' σ') : HSt w' rd ln l T len r σ' := by
  obtain ⟨-, h1, h2, h3⟩ := h
  refine ⟨hC, ⟨by rw [k 13 (by omega)]; exact h1.1, fun j b hj => by rw [k 21 (by omega)]; exact h1.2.1 j b hj, h1.2.2⟩, h2.kp (k 18 (by omega)) (k 19 (by omega)) (k 20 (by omega)), ?_, fun j hj => ?_⟩
  · rw [k _ (by omega)]; exact h3.1
  · rw [k _ (by omega)]; exact h3.2 j hj
def nod (rd : Nat → Nat → Nat) (ln : Nat → Nat) (l : List Nat) : Prop := ∀ b, b ∈ l → ∀ p q, p < ln b → q < ln b → p ≠ q → rd b p ≠ rd b q
/-- no seat is open: nothing is done -/
theorem h_dead {fn : Nat} {a2 a3 : Int32} {w : Wt} (h : w 28 4 ≤ (0 : Int32)) : ∃ z, f_HandCount_doRow (fn + 1) r a2 a3 w = some (z, w) := by
  show ∃ z, f_HandCount_doRow_body (f_HandCount_doRow fn) r a2 a3 w = some (z, w)
  unfold f_HandCount_doRow_body
  by_cases c : a3 ≤ (24 : Int32)
  · rw [if_pos c, show FU = 99999 + 1 from rfl]
    refine ⟨a2, ?_⟩
    unfold lp
    have h24 : ¬ (24 : Int32) ≤ 0 := by decide
    simp only [f_HandCount_doRow_L17, h24, h, ↓reduceIte] <;> rfl
  · rw [if_neg c]; exact ⟨_, rfl⟩
theorem h_deadrow {rc : Nat → Int32 → Int32 → Wt → Option (Int32 × Wt)} {l3 l4 l5 : Int32} {fuel : Nat} {w : Wt} (h : w 28 4 ≤ (0 : Int32)) : lp (f_HandCount_doRow_L17 rc r l3) (fuel + 1) (l4, l5, w) = some (.inl (l4, w)) := by
  unfold lp
  by_cases c1 : (24 : Int32) ≤ l5
  · simp only [f_HandCount_doRow_L17, c1, ↓reduceIte] <;> rfl
  · simp only [f_HandCount_doRow_L17, c1, h, ↓reduceIte] <;> rfl
theorem h_deadpass {fn : Nat} {l3 l5 l7 l4 l8 : Int32} {j fuel : Nat} {w : Wt} (h : w 28 4 ≤ (0 : Int32)) (hj : j < 100) : ∃ z, lp (f_HandCount_doRow_L147 (f_HandCount_doRow (fn + 1)) r l3 l5 l7) (fuel + 2) (l4, l8, nI j, w) = some (z, w) := by
  obtain ⟨z, hz⟩ := h_dead (fn := fn) (r := r) (a2 := l7) (a3 := l3 + 1) h
  by_cases c1 : (6 : Int32) < nI j
  · refine ⟨l4, ?_⟩
    unfold lp
    simp only [f_HandCount_doRow_L147, c1, ↓reduceIte] <;> rfl
  · by_cases c2 : l8 = w 28 5
    · refine ⟨l4, ?_⟩
      unfold lp
      simp only [f_HandCount_doRow_L147, c1, c2, ↓reduceIte] <;> rfl
    · refine ⟨z, ?_⟩
      have h2 : lp (f_HandCount_doRow_L147 (f_HandCount_doRow (fn + 1)) r l3 l5 l7) (fuel + 1) (z, w 28 5, nI j + 1, w) = some (z, w) := by
        unfold lp
        by_cases c3 : (6 : Int32) < nI j + 1
        · simp only [f_HandCount_doRow_L147, c3, ↓reduceIte] <;> rfl
        · simp only [f_HandCount_doRow_L147, c3, ↓reduceIte] <;> rfl
      show (Option.bind _ _) = _
      simp only [f_HandCount_doRow_L147, c1, c2, ↓reduceIte, nmd_eq, hz, bnd_eq]
      exact h2
/-- the number behind a letter -/
theorem h_num {w : Wt} {p : Nat} {rc : Nat → Int32 → Int32 → Wt → Option (Int32 × Wt)} (hlen : len ≤ 24) (hWF : WF T len) (hR : RuH w r T len) (hT : ∀ k, k < len → T k < 65536) {s d : Nat} (hp : p < len) (e : scn T p = some (s, d)) (hs : s ≤ 1) (h40 : T p ≠ 40) (h41 : T p ≠ 41) (l3 l5 l6 : Int32) :
    ∃ num, lp (f_HandCount_doRow_L77 rc r l3 l5 l6 w) FU (nI (p + 1), (0 : Int32)) = some (nI (nx T p - 1), num) ∧ (T p = 101 → num = nI (shr T p)) := by
  have hend : ∀ (k : Nat) (v : Int32) fuel, k < len → T k = 59 → lp (f_HandCount_doRow_L77 rc r l3 l5 l6 w) (fuel + 1) (nI k, v) = some (nI k, v) := by
    intro k v fuel hk h59
    have a1 : ¬ w (32 + r) 3 ≤ nI k := by rw [hR.1, nl_le (by omega) (by omega)]; omega
    have a2 : inb (nI k) 24 = true := nl_in (by omega) (by omega)
    have a3 : (nI k).toNatClampNeg = k := nl_cl (by omega)
    have a5 : dgN (T k) = false := by rw [h59]; rfl
    unfold lp
    simp only [f_HandCount_doRow_L77, a1, a2, a3, hR.2 k hk, gd_t, f_digit (hT k hk), a5, bnd_eq, tI0, ↓reduceIte] <;> rfl
  have hfig : ∀ (k : Nat) (v : Nat) fuel, k < len → dgN (T k) = true → lp (f_HandCount_doRow_L77 rc r l3 l5 l6 w) (fuel + 1) (nI k, nI v) = lp (f_HandCount_doRow_L77 rc r l3 l5 l6 w) fuel (nI (k + 1), nI (10 * v + (T k - 48))) := by
    intro k v fuel hk hd
    have a1 : ¬ w (32 + r) 3 ≤ nI k := by rw [hR.1, nl_le (by omega) (by omega)]; omega
    have a2 : inb (nI k) 24 = true := nl_in (by omega) (by omega)
    have a3 : (nI k).toNatClampNeg = k := nl_cl (by omega)
    have hge : 48 ≤ T k := by unfold dgN at hd; simp at hd; omega
    have e1 : (10 : Int32) * nI v = nI (10 * v) := pk_mul 10 v
    have e2 : nI (T k) - (48 : Int32) = nI (T k - 48) := pk_sub hge
    show (Option.bind _ _) = _
    simp only [f_HandCount_doRow_L77, a1, a2, a3, hR.2 k hk, gd_t, f_digit (hT k hk), hd, bnd_eq, tI0, nmd_eq, e1, e2, nI_add, nI_1, ↓reduceIte, Bool.true_eq_false] <;> rfl
  rcases st_kind hWF hp e hs with ⟨g, -⟩ | ⟨g, -⟩ | ⟨hx, -, -, g59, gd, -⟩
  · exact absurd g h40
  · exact absurd g h41
  · by_cases c : T p = 101
    · obtain ⟨d2, b1, b2, b3, b4, b5⟩ := e_nx hWF hp c
      refine ⟨nI (shr T p), ?_, fun _ => rfl⟩
      unfold nx
      rw [if_pos c, show FU = 99997 + 1 + 1 + 1 from rfl, show (0 : Int32) = nI 0 from rfl, hfig (p + 1) 0 _ (by omega) b4]
      rcases b5 with ⟨f1, f2⟩ | ⟨f1, f2, f3, f4, f5⟩
      · have hnd : ¬ dgN (T (p + 2)) = true := by rw [f1]; decide
        rw [if_neg hnd, hend (p + 1 + 1) _ _ b3 f1]
        unfold shr
        rw [if_neg hnd, show 10 * 0 + (T (p + 1) - 48) = T (p + 1) - 48 from by omega]
        rfl
      · rw [if_pos f1, hfig (p + 1 + 1) _ _ b3 f1, hend (p + 1 + 1 + 1) _ _ f2 f3]
        unfold shr
        rw [if_pos f1, show 10 * (10 * 0 + (T (p + 1) - 48)) + (T (p + 1 + 1) - 48) = 10 * (T (p + 1) - 48) + (T (p + 2) - 48) from by rw [show p + 1 + 1 = p + 2 from rfl]; omega]
        rfl
    · have hpl : plN (T p) = true := by
        unfold plN
        refine decide_eq_true ?_
        unfold isT isB isG at hx
        omega
      obtain ⟨d2, b1, b2, b3, b4⟩ := p_nx hWF hp hpl
      refine ⟨0, ?_, fun h => absurd h c⟩
      unfold nx
      rw [if_neg c, show FU = 99999 + 1 from rfl, hend (p + 1) _ _ b2 b3]
      rfl
/-- what a row by hand comes to -/
def RowL (rd : Nat → Nat → Nat) (ln : Nat → Nat) (l : List Nat) (T : Nat → Nat) (len n0 r N : Nat) : Prop :=
  ∀ (c : Cf) (w : Wt) (turn fuel : Nat), phi1 T len c ≤ N → gcf T len n0 c → HSt w rd ln l T len r c.2.2 → turn ≤ c.1 → 27 ≤ fuel + turn →
    Ok (lp (f_HandCount_doRow_L17 (f_HandCount_doRow (29 - c.2.1.length)) r (nI c.2.1.length)) fuel (nI c.1, nI turn, w)) (fun x => ∃ z w', f_HandCount_doRow_x17 (f_HandCount_doRow (29 - c.2.1.length)) r x = some (z, w') ∧ kpH w w' ∧ ∃ n c', run rd ln l T len n c = c' ∧ gcf T len n0 c' ∧ HC w' c'.2.2 ∧ (c'.2.2.1.2.2.1 = 0 ∨ (c'.2.1 = c.2.1 ∧ z = nI c'.1 ∧ (c'.1 = len ∨ T c'.1 = 41) ∧ bst T c'.1 = bst T c.1 ∧ c.1 ≤ c'.1)))
def PassL (rd : Nat → Nat → Nat) (ln : Nat → Nat) (l : List Nat) (T : Nat → Nat) (len n0 r N : Nat) : Prop :=
  ∀ (b j fuel : Nat) (ss : List Nat) (σ : CS) (w : Wt) (z l8 l5 : Int32), phi1 T len (b + 1, σ.1.1 :: ss, σ) ≤ N → gcf T len n0 (b + 1, σ.1.1 :: ss, σ) → HSt w rd ln l T len r σ → T b = 40 → l8 ≠ nI σ.1.1 → pcN σ.1.1 + j ≤ 6 → 10 ≤ fuel + j →
    Ok (lp (f_HandCount_doRow_L147 (f_HandCount_doRow (29 - ss.length)) r (nI ss.length) l5 (nI (b + 1))) fuel (z, l8, nI j, w)) (fun x => kpH w x.2 ∧ ∃ n c', run rd ln l T len n (b + 1, σ.1.1 :: ss, σ) = c' ∧ gcf T len n0 c' ∧ HC x.2 c'.2.2 ∧ (c'.2.2.1.2.2.1 = 0 ∨ (c'.2.1 = ss ∧ x.1 + 1 = nI c'.1 ∧ bst T c'.1 = bst T b ∧ b + 1 < c'.1)))
theorem h_pass {N : Nat} (hr : r < 8) (hlen : len ≤ 24) (hWF : WF T len) (hrow : RowL rd ln l T len n0 r N) (ih : ∀ M, M < N → PassL rd ln l T len n0 r M) : PassL rd ln l T len n0 r N := by
  intro b j fuel ss σ w z l8 l5 h1 hg hS hb40 h8 hj hf
  obtain ⟨fuel, rfl⟩ : ∃ f, fuel = f + 3 := ⟨fuel - 3, by omega⟩
  have hgg := hg
  obtain ⟨⟨hp, s, hs1, hsc⟩, hC, hss, ht⟩ := hgg
  dsimp only at hp hsc hC hss
  have hbl := bst_len (b + 1) _ _ hsc
  have hbs : bst T (b + 1) = b :: bst T b := by rw [bst_s, if_pos hb40]
  have hdep : (bst T (b + 1)).length ≤ b + 1 := Nat.le_trans (bst_cB (b + 1)) cntS_le
  rw [hbl, List.length_cons] at hdep
  have e1 : ¬ (6 : Int32) < nI j := by rw [qd_6 (by omega)]; omega
  have e2 : ¬ l8 = w 28 5 := by rw [hS.1.1.1]; exact h8
  obtain ⟨fn, hfn⟩ : ∃ fn, 29 - ss.length = fn + 1 := ⟨28 - ss.length, by omega⟩
  have hfn2 : 29 - (σ.1.1 :: ss).length = fn := by rw [List.length_cons]; omega
  -- the row inside
  obtain ⟨x, ex, z1, w1, ex2, k1, n, c', hn, hg', hC', halt⟩ := hrow (b + 1, σ.1.1 :: ss, σ) w 0 FU h1 hg hS (by omega) (by show 27 ≤ 100000 + 0; omega)
  dsimp only at ex ex2
  rw [hfn2] at ex ex2
  have hrc : f_HandCount_doRow (29 - ss.length) r (nI (b + 1)) (nI ss.length + 1) w = some (z1, w1) := by
    rw [hfn]
    show f_HandCount_doRow_body (f_HandCount_doRow fn) r (nI (b + 1)) (nI ss.length + 1) w = _
    unfold f_HandCount_doRow_body
    rw [nI_1, if_pos (by rw [qa_24 (by omega)]; omega)]
    rw [List.length_cons] at ex
    rw [show (0 : Int32) = nI 0 from rfl, ex, bnd_eq, ex2]
  have hturn : ∀ f, lp (f_HandCount_doRow_L147 (f_HandCount_doRow (29 - ss.length)) r (nI ss.length) l5 (nI (b + 1))) (f + 1) (z, l8, nI j, w) = lp (f_HandCount_doRow_L147 (f_HandCount_doRow (29 - ss.length)) r (nI ss.length) l5 (nI (b + 1))) f (z1, nI σ.1.1, nI (j + 1), w1) := by
    intro f
    show (Option.bind _ _) = _
    simp only [f_HandCount_doRow_L147, e1, hS.1.1.1, h8, ↓reduceIte, nmd_eq, hrc, bnd_eq]
    rw [nI_1]
  rw [hturn (fuel + 2)]
  have hdead : c'.2.2.1.2.2.1 = 0 → Ok (lp (f_HandCount_doRow_L147 (f_HandCount_doRow (29 - ss.length)) r (nI ss.length) l5 (nI (b + 1))) (fuel + 2) (z1, nI σ.1.1, nI (j + 1), w1)) (fun x => kpH w x.2 ∧ ∃ n c', run rd ln l T len n (b + 1, σ.1.1 :: ss, σ) = c' ∧ gcf T len n0 c' ∧ HC x.2 c'.2.2 ∧ (c'.2.2.1.2.2.1 = 0 ∨ (c'.2.1 = ss ∧ x.1 + 1 = nI c'.1 ∧ bst T c'.1 = bst T b ∧ b + 1 < c'.1))) := by
    intro h0
    have hd : w1 28 4 ≤ (0 : Int32) := by rw [hC'.1.2.2.1, h0]; decide
    obtain ⟨z2, hz2⟩ := h_deadpass (fn := fn) (r := r) (l3 := nI ss.length) (l5 := l5) (l7 := nI (b + 1)) (l4 := z1) (l8 := nI σ.1.1) (j := j + 1) (fuel := fuel) hd (by omega)
    rw [← hfn] at hz2
    exact ⟨_, hz2, k1, n, c', hn, hg', hC', Or.inl h0⟩
  by_cases h0 : c'.2.2.1.2.2.1 = 0
  · exact hdead h0
  · rcases halt with h0' | ⟨g1, g2, g3, g4, g5⟩
    · exact absurd h0' h0
    · obtain ⟨p2, ss2, σ2⟩ := c'
      dsimp only at g1 g2 g3 g4 g5 h0 hC'
      subst g1
      subst g2
      obtain ⟨⟨hp2, s2, hs2, hsc2⟩, hC2, hss2, ht2⟩ := hg'
      dsimp only at hp2 hsc2 hC2 hss2
      have hp2l : p2 ≠ len := by
        intro e
        subst e
        unfold WF at hWF
        rw [hWF] at hsc2
        simp only [Option.some.injEq, Prod.mk.injEq, List.length_cons] at hsc2
        omega
      have h41 : T p2 = 41 := by rcases g3 with g | g; exact absurd g hp2l; exact g
      have hgo : going len (p2, σ.1.1 :: ss, σ2) := ⟨by show p2 < len; omega, by show 0 < σ2.1.2.2.1; omega⟩
      have hbp : bst T p2 = b :: bst T b := g4.trans hbs
      have hhd : (bst T p2).headD 0 = b := by rw [hbp]; rfl
      have hg' : gcf T len n0 (p2, σ.1.1 :: ss, σ2) := ⟨⟨hp2, s2, hs2, hsc2⟩, hC2, hss2, ht2⟩
      have e : stS rd ln l T (p2, σ.1.1 :: ss, σ2) = if σ.1.1 = σ2.1.1 then (p2 + 1, ss, σ2) else (b + 1, σ2.1.1 :: ss, σ2) := by unfold stS; rw [if_neg (by show ¬ T p2 = 40; omega), if_pos h41, hhd]
      have hgs := st_gd (rd := rd) (ln := ln) (l := l) hWF hg' hgo
      have hrun : run rd ln l T len (n + 1) (b + 1, σ.1.1 :: ss, σ) = stS rd ln l T (p2, σ.1.1 :: ss, σ2) := by
        rw [run_add n 1, hn, run_go hgo]; rfl
      obtain ⟨f1, f2, f3⟩ := hss2 σ.1.1 List.mem_cons_self
      have h164 := hC.1.1
      have h264 := hC2.1.1
      by_cases cs : σ.1.1 = σ2.1.1
      · rw [if_pos cs] at e
        rw [e] at hgs hrun
        have hend : lp (f_HandCount_doRow_L147 (f_HandCount_doRow (29 - ss.length)) r (nI ss.length) l5 (nI (b + 1))) (fuel + 2) (nI p2, nI σ.1.1, nI (j + 1), w1) = some (nI p2, w1) := by
          unfold lp
          have h5 : nI σ.1.1 = w1 28 5 := by rw [hC'.1.1, cs]
          by_cases c1 : (6 : Int32) < nI (j + 1)
          · simp only [f_HandCount_doRow_L147, c1, ↓reduceIte] <;> rfl
          · simp only [f_HandCount_doRow_L147, c1, h5, ↓reduceIte] <;> rfl
        refine ⟨_, hend, k1, n + 1, _, hrun, hgs, hC', Or.inr ⟨rfl, nI_1 p2, ?_, by show b + 1 < p2 + 1; omega⟩⟩
        show bst T (p2 + 1) = bst T b
        rw [bst_s, if_neg (by omega), if_pos h41, hbp]; rfl
      · rw [if_neg cs] at e
        have hphi := st_phi1 (rd := rd) (ln := ln) (l := l) hWF hg' hgo (by rw [e]; exact hgo.2)
        rw [e] at hgs hrun hphi
        have hpc := sub_pc f1 h264 f2
        have hpne : pcN σ2.1.1 ≠ pcN σ.1.1 := fun h => cs (sub_eq f1 h264 f2 h).symm
        have hmono := hphi
        obtain ⟨x3, ex3, k3, n3, c3, hn3, hg3, hC3, halt3⟩ := ih (phi1 T len (b + 1, σ2.1.1 :: ss, σ2)) (by
          have hle : phi1 T len (p2, σ.1.1 :: ss, σ2) ≤ N := by
            have : ∀ (n : Nat) (c : Cf), gcf T len n0 c → (0 < (run rd ln l T len n c).2.2.1.2.2.1) → phi1 T len (run rd ln l T len n c) ≤ phi1 T len c := by
              intro n
              induction n with
              | zero => intro c _ _; exact Nat.le_refl _
              | succ n ihn =>
                intro c hgc hOc
                by_cases hgoc : going len c
                · rw [run_go hgoc] at hOc ⊢
                  have hgs1 := st_gd (rd := rd) (ln := ln) (l := l) hWF hgc hgoc
                  have h2 := ihn _ hgs1 hOc
                  by_cases hO1 : 0 < (stS rd ln l T c).2.2.1.2.2.1
                  · have := st_phi1 hWF hgc hgoc hO1; omega
                  · have hng : ¬ going len (stS rd ln l T c) := fun hh => hO1 hh.2
                    rw [run_end hng] at hOc
                    exact absurd hOc hO1
                · rw [run_end hgoc]; exact Nat.le_refl _
            have h3 := this n _ hg (by rw [hn]; exact hgo.2)
            rw [hn] at h3
            omega
          omega) b (j + 1) (fuel + 2) ss σ2 w1 (nI p2) (nI σ.1.1) l5 (Nat.le_refl _) hgs (hS.kp k1 hC') hb40 (fun h => cs ((Iff.of_eq (nl_eq (by omega) (by omega))).mp h)) (by omega) (by omega)
        refine ⟨x3, ex3, k1.tr k3, n + 1 + n3, c3, ?_, hg3, hC3, halt3⟩
        rw [run_add, hrun]; exact hn3
theorem h_row {N : Nat} (hr : r < 8) (hlen : len ≤ 24) (hWF : WF T len) (hT : ∀ k, k < len → T k < 65536) (hnod : nod rd ln l) (ih : ∀ M, M < N → RowL rd ln l T len n0 r M ∧ PassL rd ln l T len n0 r M) : RowL rd ln l T len n0 r N := by
  intro c w turn fuel h1 hg hS hturn hf
  have htal := fun hgo hx => tal_lt hg hgo hx
  have hgs := fun hgo => st_gd (rd := rd) (ln := ln) (l := l) hWF hg hgo
  have hphi := fun hgo hO => st_phi1 (rd := rd) (ln := ln) (l := l) hWF hg hgo hO
  have hg0 := hg
  obtain ⟨p, ss, σ⟩ := c
  obtain ⟨⟨hp, s, hs1, hsc⟩, hC, hss, ht⟩ := hg
  dsimp only at hp hsc hC hss hturn hS
  obtain ⟨fuel, rfl⟩ : ∃ f, fuel = f + 2 := ⟨fuel - 2, by omega⟩
  have hp6 := zb_pc6 _ hC.1.1
  have hOb := hC.1.2.2.1
  have hbl := bst_len p _ _ hsc
  have hdep : (bst T p).length ≤ p := Nat.le_trans (bst_cB p) cntS_le
  rw [hbl] at hdep
  have hU := hS.2.2.2
  have e24 : p < len → ¬ (24 : Int32) ≤ nI turn := fun h => by rw [qb_24 (by omega)]; omega
  dsimp only
  by_cases hlt : p < len
  · have e1 := e24 hlt
    have e2 : ¬ w (32 + r) 3 ≤ nI p := by rw [hU.1, nl_le (by omega) (by omega)]; omega
    by_cases hO : 0 < σ.1.2.2.1
    · have hgo : going len (p, ss, σ) := ⟨hlt, hO⟩
      have e3 : ¬ w 28 4 ≤ (0 : Int32) := by rw [hS.1.1.2.2.1, qa_0 (by omega)]; omega
      have e5 : inb (nI p) 24 = true := nl_in (by omega) (by omega)
      have e6 : (nI p).toNatClampNeg = p := nl_cl (by omega)
      have e7 : w (40 + r) p = nI (T p) := hU.2 p hlt
      have hTp := hT p hlt
      rcases st_kind hWF hlt hsc hs1 with ⟨g, g0⟩ | ⟨g, hd, g0⟩ | ⟨hx, g1, g2, g3, g4, g5, g6, g7, g8, g9⟩
      · -- a bracket
        have e : stS rd ln l T (p, ss, σ) = (p + 1, σ.1.1 :: ss, σ) := by unfold stS; rw [if_pos g]
        have hph := hphi hgo (by rw [e]; exact hO)
        have hg1 := hgs hgo
        rw [e] at hph hg1
        have hm1 : ¬ ((-1 : Int32) = nI σ.1.1) := by
          intro h
          have h64 := hC.1.1
          have q1 := nI_toInt (n := σ.1.1) (by omega)
          rw [← h] at q1
          have q2 : (-1 : Int32).toInt = -1 := rfl
          omega
        obtain ⟨⟨z2, w2⟩, ex, k2, n2, c2, hn2, hg2, hC2, halt2⟩ := (ih (phi1 T len (p + 1, σ.1.1 :: ss, σ)) (by omega)).2 p 0 FU ss σ w (nI (p + 1)) (-1) (nI turn) (Nat.le_refl _) hg1 hS g hm1 (by omega) (by show 10 ≤ 100000 + 0; omega)
        dsimp only at k2 hC2 halt2
        have hrun : run rd ln l T len (1 + n2) (p, ss, σ) = c2 := by
          rw [Nat.add_comm, run_go hgo, e]; exact hn2
        have hturn1 : lp (f_HandCount_doRow_L17 (f_HandCount_doRow (29 - ss.length)) r (nI ss.length)) (fuel + 2) (nI p, nI turn, w) = lp (f_HandCount_doRow_L17 (f_HandCount_doRow (29 - ss.length)) r (nI ss.length)) (fuel + 1) (z2 + 1, nI (turn + 1), w2) := by
          show (Option.bind _ _) = _
          simp only [f_HandCount_doRow_L17, e1, e2, e3, e5, e6, e7, gd_t, nmd_eq, g, show nI 40 = (40 : Int32) from rfl, show ¬ (40 : Int32) = 41 from by decide, ↓reduceIte, nI_1]
          rw [show (0 : Int32) = nI 0 from rfl, ex, bnd_eq]
          show lp _ (fuel + 1) (z2 + 1, nI turn + 1, w2) = _
          rw [nI_1]
        rw [hturn1]
        by_cases h0 : c2.2.2.1.2.2.1 = 0
        · have hd : w2 28 4 ≤ (0 : Int32) := by rw [hC2.1.2.2.1, h0]; decide
          exact ⟨_, h_deadrow hd, z2 + 1, w2, rfl, k2, 1 + n2, c2, hrun, hg2, hC2, Or.inl h0⟩
        · rcases halt2 with h0' | ⟨q1, q2, q3, q4⟩
          · exact absurd h0' h0
          · obtain ⟨p2, ss2, σ2⟩ := c2
            dsimp only at q1 q2 q3 q4 h0 hC2
            subst q1
            rw [q2]
            have hle : phi1 T len (p2, ss2, σ2) < N := by
              have : ∀ (n : Nat) (c : Cf), gcf T len n0 c → (0 < (run rd ln l T len n c).2.2.1.2.2.1) → phi1 T len (run rd ln l T len n c) ≤ phi1 T len c := by
                intro n
                induction n with
                | zero => intro c _ _; exact Nat.le_refl _
                | succ n ihn =>
                  intro c hgc hOc
                  by_cases hgoc : going len c
                  · rw [run_go hgoc] at hOc ⊢
                    have hgs1 := st_gd (rd := rd) (ln := ln) (l := l) hWF hgc hgoc
                    have h2 := ihn _ hgs1 hOc
                    by_cases hO1 : 0 < (stS rd ln l T c).2.2.1.2.2.1
                    · have := st_phi1 hWF hgc hgoc hO1; omega
                    · have hng : ¬ going len (stS rd ln l T c) := fun hh => hO1 hh.2
                      rw [run_end hng] at hOc
                      exact absurd hOc hO1
                  · rw [run_end hgoc]; exact Nat.le_refl _
              have h3 := this n2 _ hg1 (by rw [hn2]; show 0 < σ2.1.2.2.1; omega)
              rw [hn2] at h3
              omega
            obtain ⟨x3, ex3, z3, w3, ex4, k3, n3, c3, hn3, hg3, hC3, halt3⟩ := (ih _ hle).1 (p2, ss2, σ2) w2 (turn + 1) (fuel + 1) (Nat.le_refl _) hg2 (hS.kp k2 hC2) (by show turn + 1 ≤ p2; omega) (by omega)
            dsimp only at ex3 ex4
            refine ⟨x3, ex3, z3, w3, ex4, k2.tr k3, 1 + n2 + n3, c3, by rw [run_add, hrun]; exact hn3, hg3, hC3, ?_⟩
            rcases halt3 with h | ⟨r1, r2, r3, r4, r5⟩
            · exact Or.inl h
            · exact Or.inr ⟨r1, r2, r3, r4.trans q3, by dsimp only at r5 ⊢; omega⟩
      · -- the row's end
        have h41 : nI (T p) = (41 : Int32) := by rw [g]; rfl
        refine ⟨.inr (nI p, w), ?_, nI p, w, rfl, kpH.rfl', 0, (p, ss, σ), rfl, hg0, hS.1, Or.inr ⟨rfl, rfl, Or.inr g, rfl, Nat.le_refl _⟩⟩
        show (Option.bind _ _) = _
        simp only [f_HandCount_doRow_L17, e1, e2, e3, e5, e6, e7, h41, gd_t, nmd_eq, ↓reduceIte]
        rfl
      · -- a command
        have e : stS rd ln l T (p, ss, σ) = (nx T p, ss, obS rd ln l (T p) (shr T p) σ) := by unfold stS; rw [if_neg g1, if_neg g2]
        obtain ⟨num, hnum, hnum2⟩ := h_num (rc := f_HandCount_doRow (29 - ss.length)) hlen hWF hU hT hlt hsc hs1 g1 g2 (nI ss.length) (nI turn) (nI (T p))
        obtain ⟨w2, ew, f1, f2⟩ := ob_H (num := shr T p) (nm := num) hC hS.1 hS.2.1 hS.2.2.1 hnod (htal hgo) hx hnum2
        have k2 : kpH w w2 := f2
        have hg1 := hgs hgo
        rw [e] at hg1
        have hrun : run rd ln l T len 1 (p, ss, σ) = (nx T p, ss, obS rd ln l (T p) (shr T p) σ) := by
          rw [run_go hgo, e]; rfl
        have hturn1 : lp (f_HandCount_doRow_L17 (f_HandCount_doRow (29 - ss.length)) r (nI ss.length)) (fuel + 2) (nI p, nI turn, w) = lp (f_HandCount_doRow_L17 (f_HandCount_doRow (29 - ss.length)) r (nI ss.length)) (fuel + 1) (nI (nx T p), nI (turn + 1), w2) := by
          show (Option.bind _ _) = _
          simp only [f_HandCount_doRow_L17, e1, e2, e3, e5, e6, e7, gd_t, nmd_eq, qe_41 (show T p < 2147483648 by omega), qe_40 (show T p < 2147483648 by omega), g1, g2, ↓reduceIte, nI_1, hnum, bnd_eq]
          unfold f_HandCount_doRow_x77
          dsimp only
          unfold f_HandCount_doRow_b123
          rw [ew, bnd_eq, bnd_eq, nI_1, nI_1, show nx T p - 1 + 1 = nx T p by omega]
        rw [hturn1]
        by_cases h0 : (obS rd ln l (T p) (shr T p) σ).1.2.2.1 = 0
        · have hd : w2 28 4 ≤ (0 : Int32) := by rw [f1.1.2.2.1, h0]; decide
          exact ⟨_, h_deadrow hd, nI (nx T p), w2, rfl, k2, 1, _, hrun, hg1, f1, Or.inl h0⟩
        · have hph := hphi hgo (by rw [e]; show 0 < (obS rd ln l (T p) (shr T p) σ).1.2.2.1; omega)
          rw [e] at hph
          obtain ⟨x3, ex3, z3, w3, ex4, k3, n3, c3, hn3, hg3, hC3, halt3⟩ := (ih _ (Nat.lt_of_lt_of_le (Nat.lt_of_succ_le hph) h1)).1 (nx T p, ss, obS rd ln l (T p) (shr T p) σ) w2 (turn + 1) (fuel + 1) (Nat.le_refl _) hg1 (hS.kp k2 f1) (by show turn + 1 ≤ nx T p; omega) (by omega)
          dsimp only at ex3 ex4
          refine ⟨x3, ex3, z3, w3, ex4, k2.tr k3, 1 + n3, c3, by rw [run_add, hrun]; exact hn3, hg3, hC3, ?_⟩
          rcases halt3 with h | ⟨r1, r2, r3, r4, r5⟩
          · exact Or.inl h
          · exact Or.inr ⟨r1, r2, r3, r4.trans g8, by dsimp only at r5 ⊢; omega⟩
    · have h0 : σ.1.2.2.1 = 0 := by omega
      have hd : w 28 4 ≤ (0 : Int32) := by rw [hS.1.1.2.2.1, h0]; decide
      exact ⟨_, h_deadrow hd, nI p, w, rfl, kpH.rfl', 0, (p, ss, σ), rfl, hg0, hS.1, Or.inl h0⟩
  · have hpe : p = len := by omega
    have e2 : w (32 + r) 3 ≤ nI p := by rw [hU.1, nl_le (by omega) (by omega)]; omega
    by_cases c1 : (24 : Int32) ≤ nI turn
    · refine ⟨.inl (nI p, w), ?_, nI p, w, rfl, kpH.rfl', 0, (p, ss, σ), rfl, hg0, hS.1, Or.inr ⟨rfl, rfl, Or.inl hpe, rfl, Nat.le_refl _⟩⟩
      unfold lp
      simp only [f_HandCount_doRow_L17, c1, ↓reduceIte] <;> rfl
    · by_cases c2 : w 28 4 ≤ (0 : Int32)
      · refine ⟨.inl (nI p, w), ?_, nI p, w, rfl, kpH.rfl', 0, (p, ss, σ), rfl, hg0, hS.1, Or.inr ⟨rfl, rfl, Or.inl hpe, rfl, Nat.le_refl _⟩⟩
        unfold lp
        simp only [f_HandCount_doRow_L17, c1, c2, ↓reduceIte] <;> rfl
      · refine ⟨.inr (nI p, w), ?_, nI p, w, rfl, kpH.rfl', 0, (p, ss, σ), rfl, hg0, hS.1, Or.inr ⟨rfl, rfl, Or.inl hpe, rfl, Nat.le_refl _⟩⟩
        unfold lp
        simp only [f_HandCount_doRow_L17, c1, c2, e2, ↓reduceIte] <;> rfl
theorem h_both (hr : r < 8) (hlen : len ≤ 24) (hWF : WF T len) (hT : ∀ k, k < len → T k < 65536) (hnod : nod rd ln l) : ∀ N, RowL rd ln l T len n0 r N ∧ PassL rd ln l T len n0 r N := by
  intro N
  induction N using Nat.strongRecOn with
  | ind N ih =>
    have h1 := h_row hr hlen hWF hT hnod ih
    exact ⟨h1, h_pass hr hlen hWF h1 (fun M hM => (ih M hM).2)⟩
theorem h_run {w : Wt} {σ : CS} (hr : r < 8) (hlen : len ≤ 24) (hWF : WF T len) (hT : ∀ k, k < len → T k < 65536) (hnod : nod rd ln l) (hg : gcf T len n0 (0, [], σ)) (hS : HSt w rd ln l T len r σ) : Ok (f_HandCount_doRow FD r (0 : Int32) (0 : Int32) w) (fun x => ∃ n, ¬ going len (run rd ln l T len n (0, [], σ)) ∧ HC x.2 (run rd ln l T len n (0, [], σ)).2.2 ∧ kpH w x.2) := by
  obtain ⟨x, ex, z, w', ex2, k, n, c', hn, hg', hC', halt⟩ := (h_both hr hlen hWF hT hnod (phi1 T len (0, [], σ))).1 (0, [], σ) w 0 FU (Nat.le_refl _) hg hS (Nat.le_refl _) (by show 27 ≤ 100000 + 0; omega)
  refine ⟨(z, w'), ?_, n, ?_, ?_, k⟩
  · show f_HandCount_doRow_body (f_HandCount_doRow 29) r 0 0 w = _
    unfold f_HandCount_doRow_body
    rw [if_pos (by decide), show ((0 : Int32), (0 : Int32), w) = (nI 0, nI 0, w) from rfl, show (0 : Int32) = nI ([] : List Nat).length from rfl]
    have ex' : lp (f_HandCount_doRow_L17 (f_HandCount_doRow 29) r (nI ([] : List Nat).length)) FU (nI 0, nI 0, w) = some x := ex
    rw [ex', bnd_eq]
    exact ex2
  · rw [hn]
    intro hgo
    rcases halt with h0 | ⟨g1, g2, g3, g4, g5⟩
    · have := hgo.2; omega
    · rcases g3 with g | g
      · have := hgo.1; omega
      · obtain ⟨⟨hp2, s2, hs2, hsc2⟩, -, -, -⟩ := hg'
        rw [g1] at hsc2
        rcases st_kind hWF hgo.1 hsc2 hs2 with ⟨q, -⟩ | ⟨q, q2, -⟩ | ⟨-, -, q, -⟩
        · omega
        · exact absurd q2 (Nat.lt_irrefl 0)
        · exact q g
  · rw [hn]; exact hC'
end HFLOW

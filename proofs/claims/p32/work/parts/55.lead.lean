/-! THE BEST AND THE WORST: a set's leaders by votes; a tie told and broken; who goes -/
def fup (f : Nat → Nat) (k v : Nat) : Nat → Nat := fun j => if j = k then v else f j
def ldI (f : Nat → Int32) (S : Nat) (b : Bool) : Nat → Nat × Int32
  | 0 => (0, 0)
  | k + 1 => if hs S k = true then (if (ldI f S b k).1 = 0 ∨ (if b = true then (ldI f S b k).2 < f k else f k < (ldI f S b k).2) then (2 ^ k, f k) else if f k = (ldI f S b k).2 then (adb (ldI f S b k).1 k, (ldI f S b k).2) else ldI f S b k) else ldI f S b k
def ldS (f : Nat → Int32) (S : Nat) (b : Bool) : Nat := (ldI f S b 6).1
theorem ldI_ok {f : Nat → Int32} {S : Nat} {b : Bool} (hS : S < 64) : ∀ k, k ≤ 6 → (ldI f S b k).1 < 64 ∧ (∀ j, j < 6 → hs (ldI f S b k).1 j = true → hs S j = true ∧ f j = (ldI f S b k).2) ∧ ((∃ j, j < k ∧ hs S j = true) → (ldI f S b k).1 ≠ 0) := by
  intro k
  induction k with
  | zero =>
    intro _
    refine ⟨by show 0 < 64; omega, fun j hj h => ?_, fun ⟨j, hj, _⟩ => by omega⟩
    have : hs 0 j = true := h
    rw [zb_hs0 j hj] at this; cases this
  | succ k ih =>
    intro hk
    obtain ⟨h1, h2, h3⟩ := ih (by omega)
    unfold ldI
    generalize ldI f S b k = p at h1 h2 h3
    obtain ⟨t, v⟩ := p
    dsimp only at h1 h2 h3 ⊢
    by_cases c : hs S k = true
    · rw [if_pos c]
      by_cases c2 : t = 0 ∨ (if b = true then v < f k else f k < v)
      · rw [if_pos c2]
        refine ⟨(zb_2lt k (by omega)).1, fun j hj h => ?_, fun _ => (zb_2lt k (by omega)).2⟩
        have e := (zb_hs2 k (by omega) j hj).mp h
        subst e; exact ⟨c, rfl⟩
      · rw [if_neg c2]
        by_cases c3 : f k = v
        · rw [if_pos c3]
          refine ⟨zb_alt t h1 k (by omega), fun j hj h => ?_, fun _ => zb_ane t h1 k (by omega)⟩
          rcases (zb_hsa t h1 k (by omega) j hj).mp h with e | e
          · exact h2 j hj e
          · subst e; exact ⟨c, c3⟩
        · rw [if_neg c3]
          refine ⟨h1, h2, fun ⟨j, hj, hjs⟩ => ?_⟩
          intro e
          exact c2 (Or.inl e)
    · rw [if_neg c]
      refine ⟨h1, h2, fun ⟨j, hj, hjs⟩ => h3 ⟨j, ?_, hjs⟩⟩
      by_cases e : j = k
      · subst e; exact absurd hjs c
      · omega
theorem ldS_lt {f : Nat → Int32} {S : Nat} {b : Bool} (hS : S < 64) : ldS f S b < 64 := (ldI_ok hS 6 (by omega)).1
theorem ldS_sub {f : Nat → Int32} {S : Nat} {b : Bool} (hS : S < 64) : sub (ldS f S b) S := fun j hj h => ((ldI_ok (f := f) (b := b) hS 6 (by omega)).2.1 j hj h).1
theorem ldS_ne {f : Nat → Int32} {S : Nat} {b : Bool} (hS : S < 64) (h : S ≠ 0) : ldS f S b ≠ 0 := (ldI_ok (f := f) (b := b) hS 6 (by omega)).2.2 ⟨loN S, zb_lo6 S hS, zb_lo S hS h⟩
theorem ldS_eq {f : Nat → Int32} {S : Nat} {b : Bool} (hS : S < 64) {i j : Nat} (hi : i < 6) (hj : j < 6) (h1 : hs (ldS f S b) i = true) (h2 : hs (ldS f S b) j = true) : f i = f j := by
  have h := (ldI_ok (f := f) (b := b) hS 6 (by omega)).2.1
  rw [(h i hi h1).2, (h j hj h2).2]
theorem ldS_0 {f : Nat → Int32} {b : Bool} : ldS f 0 b = 0 := by
  have : ∀ k, k ≤ 6 → ldI f 0 b k = (0, 0) := by
    intro k
    induction k with
    | zero => intro _; rfl
    | succ k ih =>
      intro hk
      unfold ldI
      rw [zb_hs0 k (by omega), if_neg (by decide)]
      exact ih (by omega)
  unfold ldS; rw [this 6 (by omega)]
theorem ldS_c {f g : Nat → Int32} {S : Nat} {b : Bool} (h : ∀ k, k < 6 → hs S k = true → f k = g k) : ldS f S b = ldS g S b := by
  have : ∀ k, k ≤ 6 → ldI f S b k = ldI g S b k := by
    intro k
    induction k with
    | zero => intro _; rfl
    | succ k ih =>
      intro hk
      unfold ldI
      rw [ih (by omega)]
      by_cases c : hs S k = true
      · rw [h k (by omega) c]
      · rw [if_neg c, if_neg c]
  unfold ldS; rw [this 6 (by omega)]
/-- the earlier tallies, n of them, the later ones first -/
def qlS (vt : Nat → Nat → Int32) (b : Bool) : Nat → Nat → Nat
  | 0, s => s
  | n + 1, s => if pcN s ≤ 1 then s else qlS vt b n (ldS (vt n) s b)
theorem qlS_ok {vt : Nat → Nat → Int32} {b : Bool} : ∀ n s, s < 64 → s ≠ 0 → qlS vt b n s < 64 ∧ qlS vt b n s ≠ 0 ∧ sub (qlS vt b n s) s := by
  intro n
  induction n with
  | zero => intro s h1 h2; exact ⟨h1, h2, sub_rfl⟩
  | succ n ih =>
    intro s h1 h2
    unfold qlS
    by_cases c : pcN s ≤ 1
    · rw [if_pos c]; exact ⟨h1, h2, sub_rfl⟩
    · rw [if_neg c]
      obtain ⟨g1, g2, g3⟩ := ih (ldS (vt n) s b) (ldS_lt h1) (ldS_ne h1 h2)
      exact ⟨g1, g2, sub_tr g3 (ldS_sub h1)⟩
def latV (vt : Nat → Nat → Int32) (tn c : Nat) : Int32 := if tn = 0 then 0 else vt (tn - 1) c
def leadS (vt : Nat → Nat → Int32) (tn : Nat) (b : Bool) (S : Nat) : Nat := ldS (latV vt tn) S b
def pickS (B L : Nat) : Nat := if B = 104 then hiN L else loN L
def choS (vt : Nat → Nat → Int32) (tn B : Nat) (b : Bool) (S : Nat) : Nat := pickS B (if B = 113 then qlS vt b (tn - 1) (leadS vt tn b S) else leadS vt tn b S)
theorem pick_in {B L : Nat} (hL : L < 64) (h : L ≠ 0) : pickS B L < 6 ∧ hs L (pickS B L) = true := by
  unfold pickS
  split
  · exact ⟨zb_hi6 L hL, zb_hi L hL h⟩
  · exact ⟨zb_lo6 L hL, zb_lo L hL h⟩
theorem choS_in {vt : Nat → Nat → Int32} {tn B S : Nat} {b : Bool} (hS : S < 64) (h : S ≠ 0) : choS vt tn B b S < 6 ∧ hs (leadS vt tn b S) (choS vt tn B b S) = true ∧ hs S (choS vt tn B b S) = true := by
  have l1 : leadS vt tn b S < 64 := ldS_lt hS
  have l2 : leadS vt tn b S ≠ 0 := ldS_ne hS h
  have l3 : sub (leadS vt tn b S) S := ldS_sub hS
  obtain ⟨q1, q2, q3⟩ := qlS_ok (vt := vt) (b := b) (tn - 1) _ l1 l2
  unfold choS
  split
  · obtain ⟨p1, p2⟩ := pick_in (B := B) q1 q2
    exact ⟨p1, q3 _ p1 p2, l3 _ p1 (q3 _ p1 p2)⟩
  · obtain ⟨p1, p2⟩ := pick_in (B := B) l1 l2
    exact ⟨p1, p2, l3 _ p1 p2⟩
/-- who stands, who is elected, open seats, how many ties, which -/
abbrev DS : Type := Nat × Nat × Nat × Nat × (Nat → Nat)
def gdD (δ : DS) : Prop := δ.1 < 64 ∧ δ.2.1 < 64 ∧ δ.2.2.1 ≤ pcN δ.1 ∧ δ.2.2.2.1 + pcN δ.1 ≤ 6
def elS (vt : Nat → Nat → Int32) (tn B : Nat) (b : Bool) (δ : DS) : DS :=
  (rmv δ.1 (choS vt tn B b δ.1), (if b = true then adb δ.2.1 (choS vt tn B b δ.1) else δ.2.1), (if b = true then δ.2.2.1 - 1 else δ.2.2.1), (if 1 < pcN (leadS vt tn b δ.1) then δ.2.2.2.1 + 1 else δ.2.2.2.1), (if 1 < pcN (leadS vt tn b δ.1) then fup δ.2.2.2.2 δ.2.2.2.1 (leadS vt tn b δ.1) else δ.2.2.2.2))
def mayS (vt : Nat → Nat → Int32) (tn : Nat) (wl : Int32) (cmd : Nat) (num : Int32) (δ : DS) : Bool :=
  if cmd = 120 then decide (δ.2.2.1 < pcN δ.1)
  else if cmd = 101 ∧ δ.1 ≠ 0 then decide (¬ (100 : Int32) * latV vt tn (loN (leadS vt tn true δ.1)) ≤ num * wl)
  else decide (δ.1 ≠ 0)
def lgS (vt : Nat → Nat → Int32) (tn B : Nat) (wl : Int32) (cmd : Nat) (num : Int32) : Nat → DS → DS
  | 0, δ => δ
  | n + 1, δ => if 0 < δ.2.2.1 ∧ mayS vt tn wl cmd num δ = true then lgS vt tn B wl cmd num n (elS vt tn B (decide (cmd ≠ 120)) δ) else δ
theorem may_ne {vt : Nat → Nat → Int32} {tn : Nat} {wl num : Int32} {cmd : Nat} {δ : DS} (hS : δ.1 < 64) (h : mayS vt tn wl cmd num δ = true) : δ.1 ≠ 0 := by
  unfold mayS at h
  by_cases c : cmd = 120
  · rw [if_pos c, decide_eq_true_eq] at h
    intro e
    have := (zb_pc0 δ.1 hS).mpr e
    omega
  · rw [if_neg c] at h
    by_cases c2 : cmd = 101 ∧ δ.1 ≠ 0
    · exact c2.2
    · rw [if_neg c2, decide_eq_true_eq] at h; exact h
theorem elS_gd {vt : Nat → Nat → Int32} {tn B cmd : Nat} {wl num : Int32} {δ : DS} (h : gdD δ) (hO : 0 < δ.2.2.1) (hm : mayS vt tn wl cmd num δ = true) : gdD (elS vt tn B (decide (cmd ≠ 120)) δ) ∧ pcN (elS vt tn B (decide (cmd ≠ 120)) δ).1 + 1 = pcN δ.1 := by
  obtain ⟨S, E, O, un, us⟩ := δ
  obtain ⟨h1, h2, h3, h4⟩ := h
  have hne := may_ne h1 hm
  dsimp only at h1 h2 h3 h4 hO hne
  obtain ⟨c1, c2, c3⟩ := choS_in (vt := vt) (tn := tn) (B := B) (b := decide (cmd ≠ 120)) h1 hne
  have hp := zb_rpc S h1 _ c1 c3
  refine ⟨⟨zb_rlt S h1 _ c1, ?_, ?_, ?_⟩, hp⟩
  · unfold elS; dsimp only
    split
    · exact zb_alt _ h2 _ c1
    · exact h2
  · unfold elS; dsimp only
    split
    · omega
    · rename_i g
      have g2 : cmd = 120 := by simpa using g
      unfold mayS at hm
      rw [if_pos g2, decide_eq_true_eq] at hm
      dsimp only at hm
      omega
  · unfold elS; dsimp only
    split <;> omega
/-- the class's cells of a count: c is 22 or 28 -/
def MMd (c : Nat) (w : Wt) (δ : DS) : Prop := w c 5 = nI δ.1 ∧ w c 6 = nI δ.2.1 ∧ w c 4 = nI δ.2.2.1 ∧ w c 2 = nI δ.2.2.2.1 ∧ ∀ i, i < δ.2.2.2.1 → w (c + 1) i = nI (δ.2.2.2.2 i)
def KpD (c : Nat) (w w' : Wt) : Prop := (∀ i, i ≠ c → i ≠ c + 1 → w' i = w i) ∧ ∀ j, j ≠ 2 → j ≠ 4 → j ≠ 5 → j ≠ 6 → w' c j = w c j
theorem KpD.rfl' {c : Nat} {w : Wt} : KpD c w w := ⟨fun _ _ _ => rfl, fun _ _ _ _ _ => rfl⟩
theorem KpD.tr {c : Nat} {a b d : Wt} (h : KpD c a b) (g : KpD c b d) : KpD c a d := ⟨fun i h1 h2 => (g.1 i h1 h2).trans (h.1 i h1 h2), fun j h1 h2 h3 h4 => (g.2 j h1 h2 h3 h4).trans (h.2 j h1 h2 h3 h4)⟩
theorem f_lead_M {w : Wt} {S : Nat} {a2 : Int32} {f : Nat → Int32} (hS : S < 64) (hv : ∀ k, k < 6 → hs S k = true → f_MachineCount_votesIn a2 (nI k) w = some (f k)) (b : Bool) : f_Count_leaders_M (nI S) a2 (tI b) w = some (nI (ldS f S b)) := by
  have key : Ok (lp (f_Count_leaders_M_L9 (nI S) a2 (tI b) w) FU ((0 : Int32), (0 : Int32), (0 : Int32))) (fun r => r = nI (ldS f S b)) := by
    refine Ok.count 6 (fun k z => z = (nI (ldI f S b k).1, (ldI f S b k).2, nI k)) (fun k z hk e => ?_) (fun z e => ?_) 6 FU 0 _ (by omega) (by show _ < 100000; omega) rfl
    · subst e
      have e1 : ¬ (6 : Int32) ≤ nI k := by rw [qb_6 (by omega)]; omega
      have ht := (ldI_ok (f := f) (b := b) hS k (by omega)).1
      refine Ok.eq (a := .inl (nI (ldI f S b (k + 1)).1, (ldI f S b (k + 1)).2, nI (k + 1))) ?_ rfl
      have hun : ldI f S b (k + 1) = if hs S k = true then (if (ldI f S b k).1 = 0 ∨ (if b = true then (ldI f S b k).2 < f k else f k < (ldI f S b k).2) then (2 ^ k, f k) else if f k = (ldI f S b k).2 then (adb (ldI f S b k).1 k, (ldI f S b k).2) else ldI f S b k) else ldI f S b k := rfl
      rw [hun]
      generalize ldI f S b k = p at ht
      obtain ⟨t, v⟩ := p
      dsimp only at ht ⊢
      cases c : hs S k with
      | false => simp only [f_Count_leaders_M_L9, e1, zb_has S hS k hk, c, bnd_eq, tI0, nI_1, ↓reduceIte, Bool.false_eq_true]
      | true =>
        have h63 : f_Count_leaders_M_b63 (nI S) a2 (tI b) (nI k) (f k) w = some (.inl (nI (2 ^ k), f k, nI (k + 1))) := by
          simp only [f_Count_leaders_M_b63, zb_one k hk, nmd_eq, nI_1]
        have h76 : f_Count_leaders_M_b76 (nI S) a2 (tI b) (nI t) v (nI k) (f k) w = some (.inl (if f k = v then (nI (adb t k), v, nI (k + 1)) else (nI t, v, nI (k + 1)))) := by
          unfold f_Count_leaders_M_b76
          rw [zb_adb t ht k hk, nI_1]
          by_cases c3 : f k = v
          · rw [if_pos c3, if_pos c3]; rfl
          · rw [if_neg c3, if_neg c3]
        simp only [f_Count_leaders_M_L9, e1, zb_has S hS k hk, c, bnd_eq, tI0, ↓reduceIte, Bool.true_eq_false, hv k hk c, qe_0 (show t < 2147483648 by omega), h63, h76]
        by_cases c1 : t = 0
        · simp only [c1, true_or, ↓reduceIte]
        · simp only [c1, false_or, ↓reduceIte]
          cases b with
          | false =>
            simp only [↓reduceIte, Bool.false_eq_true]
            by_cases c2 : f k < v
            · rw [if_neg (Int32.not_le.mpr c2), if_pos c2]
            · rw [if_pos (Int32.not_lt.mp c2), if_neg c2]
              by_cases c3 : f k = v
              · rw [if_pos c3, if_pos c3]
              · rw [if_neg c3, if_neg c3]
          | true =>
            simp only [↓reduceIte, Bool.true_eq_false]
            by_cases c2 : v < f k
            · rw [if_neg (Int32.not_le.mpr c2), if_pos c2]
            · rw [if_pos (Int32.not_lt.mp c2), if_neg c2]
              by_cases c3 : f k = v
              · rw [if_pos c3, if_pos c3]
              · rw [if_neg c3, if_neg c3]
    · subst e
      have e1 : (6 : Int32) ≤ nI 6 := by decide
      exact Ok.eq (a := .inr _) (by simp only [f_Count_leaders_M_L9, e1, ↓reduceIte]; rfl) rfl
  obtain ⟨r, e, rfl⟩ := key
  unfold f_Count_leaders_M
  rw [e]; rfl
/-- the votes as this count finds them, of those that stand -/
def VV_M (w : Wt) (S tn : Nat) (vt : Nat → Nat → Int32) : Prop := ∀ t, t < tn → ∀ k, k < 6 → hs S k = true → f_MachineCount_votesIn (nI t) (nI k) w = some (vt t k)
theorem VV_M.lat {w : Wt} {S tn : Nat} {vt : Nat → Nat → Int32} (h : VV_M w S tn vt) (htn : tn ≤ 156) : ∀ k, k < 6 → hs S k = true → f_MachineCount_votesIn (nI tn - 1) (nI k) w = some (latV vt tn k) := by
  intro k hk hs'
  unfold latV
  cases tn with
  | zero =>
    have e : (nI 0 - 1 : Int32) = -1 := by decide
    rw [e]
    unfold f_MachineCount_votesIn
    rw [if_neg (by decide)]; rfl
  | succ t =>
    rw [nI_pred, if_neg (by omega)]
    exact h t (by omega) k hk hs'
theorem f_ql_M {w : Wt} {S tn : Nat} {vt : Nat → Nat → Int32} {b : Bool} {l1 l2 l4 l5 l6 : Int32} (hS : S < 64) (hv : VV_M w S tn vt) (htn : tn ≤ 156) : ∀ n set fuel, n ≤ tn → set < 64 → sub set S → n < fuel → Ok (lp (f_Count_letGo_M_L111 l1 l2 (tI b) l4 l5 l6 w) fuel (nI set, nI n - 1)) (fun r => r = nI (qlS vt b n set)) := by
  intro n
  induction n with
  | zero =>
    intro set fuel h1 h2 h3 h4
    obtain ⟨fuel, rfl⟩ : ∃ f, fuel = f + 1 := ⟨fuel - 1, by omega⟩
    have e : (nI 0 - 1 : Int32) < 0 := by decide
    unfold lp
    refine ⟨nI set, ?_, rfl⟩
    simp only [f_Count_letGo_M_L111, e, ↓reduceIte] <;> rfl
  | succ n ih =>
    intro set fuel h1 h2 h3 h4
    obtain ⟨fuel, rfl⟩ : ∃ f, fuel = f + 1 := ⟨fuel - 1, by omega⟩
    have e : ¬ nI n < (0 : Int32) := nl_neg (by omega)
    have hp := zb_pc6 set h2
    rw [nI_pred]
    unfold lp qlS
    by_cases c : pcN set ≤ 1
    · refine ⟨nI set, ?_, by rw [if_pos c]⟩
      simp only [f_Count_letGo_M_L111, e, zb_bc set h2, bnd_eq, qa_1 (show pcN set < 2147483648 by omega), c, ↓reduceIte] <;> rfl
    · obtain ⟨r, e9, rfl⟩ := ih (ldS (vt n) set b) fuel (by omega) (ldS_lt h2) (sub_tr (ldS_sub h2) h3) (by omega)
      refine ⟨_, ?_, by rw [if_neg c]⟩
      have hl := f_lead_M (w := w) (a2 := nI n) (f := vt n) h2 (fun k hk hks => hv n (by omega) k hk (h3 k hk hks)) b
      simp only [f_Count_letGo_M_L111, e, zb_bc set h2, bnd_eq, qa_1 (show pcN set < 2147483648 by omega), c, ↓reduceIte, hl]
      rw [show nI n + (-1 : Int32) = nI n - 1 from (Int32.sub_eq_add_neg _ _).symm]
      exact e9
theorem f_keep_M {w : Wt} {L un : Nat} (hL : L < 64) (hu : w 22 2 = nI un) (hun : 1 < pcN L → un < 6) : f_Count_keepTie_M (nI L) w = some (if 1 < pcN L then upd2 (upd2 w 23 un (nI L)) 22 2 (nI (un + 1)) else w) := by
  have hp := zb_pc6 L hL
  unfold f_Count_keepTie_M
  rw [zb_bc L hL, bnd_eq]
  simp only [qa_1 (show pcN L < 2147483648 by omega)]
  by_cases c : pcN L ≤ 1
  · rw [if_pos c, if_neg (by omega)]
  · have h6 := hun (by omega)
    have e1 : ¬ (6 : Int32) ≤ nI un := by rw [qb_6 (by omega)]; omega
    have e2 : inb (nI un) 6 = true := nl_in (by omega) (by omega)
    have e3 : (nI un).toNatClampNeg = un := nl_cl (by omega)
    rw [if_neg c, if_pos (show 1 < pcN L by omega), hu, if_neg e1, e2, gd_t, nmd_eq, nmd_eq, e3]
    rw [upd2_n (show 22 ≠ 23 by decide), hu, nI_1]
theorem f_may_M {w : Wt} {tn : Nat} {vt : Nat → Nat → Int32} {wl num : Int32} {cmd : Nat} {δ : DS} (hcmd : cmd < 65536) (hδ : gdD δ) (hw : MMd 22 w δ) (hv : VV_M w δ.1 tn vt) (htn : tn ≤ 156) (h3 : w 22 3 = nI tn) (hwl : f_MachineCount_weightOf (nI tn - 1) w = some wl) : f_Count_maySomeGo_M (nI cmd) num (nI (leadS vt tn (decide (cmd ≠ 120)) δ.1)) w = some (tI (mayS vt tn wl cmd num δ)) := by
  obtain ⟨d1, d2, d3, d4⟩ := hδ
  have hp := zb_pc6 δ.1 d1
  have hL : leadS vt tn (decide (cmd ≠ 120)) δ.1 < 64 := ldS_lt d1
  have hL0 : leadS vt tn (decide (cmd ≠ 120)) δ.1 = 0 ↔ δ.1 = 0 := ⟨fun e => Decidable.byContradiction fun g => ldS_ne d1 g e, fun e => by unfold leadS; rw [e, ldS_0]⟩
  unfold f_Count_maySomeGo_M mayS f_Count_maySomeGo_M_b74
  simp only [qe_120 (show cmd < 2147483648 by omega), qe_101 (show cmd < 2147483648 by omega), qe_0 (show leadS vt tn (decide (cmd ≠ 120)) δ.1 < 2147483648 by omega)]
  by_cases c : cmd = 120
  · rw [if_pos c, if_pos c, hw.1, zb_bc δ.1 d1, bnd_eq, hw.2.2.1]
    simp only [nl_le (show pcN δ.1 < 2147483648 by omega) (show δ.2.2.1 < 2147483648 by omega)]
    by_cases g : pcN δ.1 ≤ δ.2.2.1
    · rw [if_pos g, decide_eq_false (by omega)]; rfl
    · rw [if_neg g, decide_eq_true (by omega)]; rfl
  · rw [if_neg c, if_neg c]
    rw [decide_eq_true (show cmd ≠ 120 from c)] at hL hL0 ⊢
    by_cases c2 : cmd = 101
    · rw [if_pos c2]
      by_cases g : δ.1 = 0
      · rw [if_pos (hL0.mpr g), if_neg (show ¬ (cmd = 101 ∧ δ.1 ≠ 0) from fun e => e.2 g), decide_eq_false (fun e => e g)]
        simp only [if_pos (hL0.mpr g)]; rfl
      · rw [if_neg (fun e => g (hL0.mp e)), if_pos ⟨c2, g⟩, nmd_eq, h3, zb_low _ hL, bnd_eq]
        have hl6 := zb_lo6 _ hL
        have hlo : hs δ.1 (loN (leadS vt tn true δ.1)) = true := ldS_sub d1 _ hl6 (zb_lo _ hL (fun e => g (hL0.mp e)))
        rw [hv.lat htn _ hl6 hlo, bnd_eq, hwl, bnd_eq]
        by_cases g2 : (100 : Int32) * latV vt tn (loN (leadS vt tn true δ.1)) ≤ num * wl
        · rw [if_pos g2, decide_eq_false (fun e => e g2)]; rfl
        · rw [if_neg g2, decide_eq_true g2]; rfl
    · rw [if_neg c2, if_neg (show ¬ (cmd = 101 ∧ δ.1 ≠ 0) from fun e => c2 e.1)]
      by_cases g : δ.1 = 0
      · simp only [if_pos (hL0.mpr g)]
        rw [decide_eq_false (fun e => e g)]; rfl
      · simp only [if_neg (fun e => g (hL0.mp e))]
        rw [decide_eq_true g]; rfl
theorem f_rem_M {w : Wt} {S E O c : Nat} (hS : S < 64) (hE : E < 64) (hc : c < 6) (h5 : w 22 5 = nI S) (h6 : w 22 6 = nI E) (h4 : w 22 4 = nI O) (b : Bool) (hO : b = true → 0 < O) : Ok (f_Count_remove_M (nI c) (tI b) w) (fun w' => w' 22 5 = nI (rmv S c) ∧ w' 22 6 = nI (if b = true then adb E c else E) ∧ w' 22 4 = nI (if b = true then O - 1 else O) ∧ (∀ i, i ≠ 22 → w' i = w i) ∧ ∀ j, j ≠ 4 → j ≠ 5 → j ≠ 6 → w' 22 j = w 22 j) := by
  unfold f_Count_remove_M
  rw [h5, zb_rmv S hS c hc, nmd_eq]
  cases b with
  | false =>
    refine ⟨_, by rw [if_pos (show tI false = 0 from rfl)], ?_, ?_, ?_, ?_, ?_⟩
    · rw [upd2_at, if_pos rfl, if_pos rfl]
    · rw [upd2_at, if_pos rfl, if_neg (by decide)]; exact h6
    · rw [upd2_at, if_pos rfl, if_neg (by decide)]; exact h4
    · intro i hi; exact upd2_n hi
    · intro j h1 h2 h3; rw [upd2_at, if_pos rfl, if_neg h2]
  | true =>
    have hO' := hO rfl
    obtain ⟨o, rfl⟩ : ∃ o, O = o + 1 := ⟨O - 1, by omega⟩
    refine ⟨_, by rw [if_neg (show ¬ tI true = 0 from by decide), nmd_eq, nmd_eq], ?_, ?_, ?_, ?_, ?_⟩
    · rw [upd2_at, if_pos rfl, if_neg (by decide), upd2_at, if_pos rfl, if_neg (by decide), upd2_at, if_pos rfl, if_pos rfl]
    · rw [upd2_at, if_pos rfl, if_neg (by decide), upd2_at, if_pos rfl, if_pos rfl, upd2_at, if_pos rfl, if_neg (by decide), h6, zb_adb E hE c hc]; rfl
    · rw [upd2_at, if_pos rfl, if_pos rfl, upd2_at, if_pos rfl, if_neg (by decide), upd2_at, if_pos rfl, if_neg (by decide), h4, nI_pred]; rfl
    · intro i hi; rw [upd2_n hi, upd2_n hi, upd2_n hi]
    · intro j h1 h2 h3; rw [upd2_at, if_pos rfl, if_neg h1, upd2_at, if_pos rfl, if_neg h3, upd2_at, if_pos rfl, if_neg h2]
theorem f_lead_H {w : Wt} {S : Nat} {a2 : Int32} {f : Nat → Int32} (hS : S < 64) (hv : ∀ k, k < 6 → hs S k = true → f_HandCount_votesIn a2 (nI k) w = some (f k)) (b : Bool) : f_Count_leaders_H (nI S) a2 (tI b) w = some (nI (ldS f S b)) := by
  have key : Ok (lp (f_Count_leaders_H_L9 (nI S) a2 (tI b) w) FU ((0 : Int32), (0 : Int32), (0 : Int32))) (fun r => r = nI (ldS f S b)) := by
    refine Ok.count 6 (fun k z => z = (nI (ldI f S b k).1, (ldI f S b k).2, nI k)) (fun k z hk e => ?_) (fun z e => ?_) 6 FU 0 _ (by omega) (by show _ < 100000; omega) rfl
    · subst e
      have e1 : ¬ (6 : Int32) ≤ nI k := by rw [qb_6 (by omega)]; omega
      have ht := (ldI_ok (f := f) (b := b) hS k (by omega)).1
      refine Ok.eq (a := .inl (nI (ldI f S b (k + 1)).1, (ldI f S b (k + 1)).2, nI (k + 1))) ?_ rfl
      have hun : ldI f S b (k + 1) = if hs S k = true then (if (ldI f S b k).1 = 0 ∨ (if b = true then (ldI f S b k).2 < f k else f k < (ldI f S b k).2) then (2 ^ k, f k) else if f k = (ldI f S b k).2 then (adb (ldI f S b k).1 k, (ldI f S b k).2) else ldI f S b k) else ldI f S b k := rfl
      rw [hun]
      generalize ldI f S b k = p at ht
      obtain ⟨t, v⟩ := p
      dsimp only at ht ⊢
      cases c : hs S k with
      | false => simp only [f_Count_leaders_H_L9, e1, zb_has S hS k hk, c, bnd_eq, tI0, nI_1, ↓reduceIte, Bool.false_eq_true]
      | true =>
        have h63 : f_Count_leaders_H_b63 (nI S) a2 (tI b) (nI k) (f k) w = some (.inl (nI (2 ^ k), f k, nI (k + 1))) := by
          simp only [f_Count_leaders_H_b63, zb_one k hk, nmd_eq, nI_1]
        have h76 : f_Count_leaders_H_b76 (nI S) a2 (tI b) (nI t) v (nI k) (f k) w = some (.inl (if f k = v then (nI (adb t k), v, nI (k + 1)) else (nI t, v, nI (k + 1)))) := by
          unfold f_Count_leaders_H_b76
          rw [zb_adb t ht k hk, nI_1]
          by_cases c3 : f k = v
          · rw [if_pos c3, if_pos c3]; rfl
          · rw [if_neg c3, if_neg c3]
        simp only [f_Count_leaders_H_L9, e1, zb_has S hS k hk, c, bnd_eq, tI0, ↓reduceIte, Bool.true_eq_false, hv k hk c, qe_0 (show t < 2147483648 by omega), h63, h76]
        by_cases c1 : t = 0
        · simp only [c1, true_or, ↓reduceIte]
        · simp only [c1, false_or, ↓reduceIte]
          cases b with
          | false =>
            simp only [↓reduceIte, Bool.false_eq_true]
            by_cases c2 : f k < v
            · rw [if_neg (Int32.not_le.mpr c2), if_pos c2]
            · rw [if_pos (Int32.not_lt.mp c2), if_neg c2]
              by_cases c3 : f k = v
              · rw [if_pos c3, if_pos c3]
              · rw [if_neg c3, if_neg c3]
          | true =>
            simp only [↓reduceIte, Bool.true_eq_false]
            by_cases c2 : v < f k
            · rw [if_neg (Int32.not_le.mpr c2), if_pos c2]
            · rw [if_pos (Int32.not_lt.mp c2), if_neg c2]
              by_cases c3 : f k = v
              · rw [if_pos c3, if_pos c3]
              · rw [if_neg c3, if_neg c3]
    · subst e
      have e1 : (6 : Int32) ≤ nI 6 := by decide
      exact Ok.eq (a := .inr _) (by simp only [f_Count_leaders_H_L9, e1, ↓reduceIte]; rfl) rfl
  obtain ⟨r, e, rfl⟩ := key
  unfold f_Count_leaders_H
  rw [e]; rfl
/-- the votes as this count finds them, of those that stand -/
def VV_H (w : Wt) (S tn : Nat) (vt : Nat → Nat → Int32) : Prop := ∀ t, t < tn → ∀ k, k < 6 → hs S k = true → f_HandCount_votesIn (nI t) (nI k) w = some (vt t k)
theorem VV_H.lat {w : Wt} {S tn : Nat} {vt : Nat → Nat → Int32} (h : VV_H w S tn vt) (htn : tn ≤ 156) : ∀ k, k < 6 → hs S k = true → f_HandCount_votesIn (nI tn - 1) (nI k) w = some (latV vt tn k) := by
  intro k hk hs'
  unfold latV
  cases tn with
  | zero =>
    have e : (nI 0 - 1 : Int32) = -1 := by decide
    rw [e]
    unfold f_HandCount_votesIn
    rw [if_neg (by decide)]; rfl
  | succ t =>
    rw [nI_pred, if_neg (by omega)]
    exact h t (by omega) k hk hs'
theorem f_ql_H {w : Wt} {S tn : Nat} {vt : Nat → Nat → Int32} {b : Bool} {l1 l2 l4 l5 l6 : Int32} (hS : S < 64) (hv : VV_H w S tn vt) (htn : tn ≤ 156) : ∀ n set fuel, n ≤ tn → set < 64 → sub set S → n < fuel → Ok (lp (f_Count_letGo_H_L111 l1 l2 (tI b) l4 l5 l6 w) fuel (nI set, nI n - 1)) (fun r => r = nI (qlS vt b n set)) := by
  intro n
  induction n with
  | zero =>
    intro set fuel h1 h2 h3 h4
    obtain ⟨fuel, rfl⟩ : ∃ f, fuel = f + 1 := ⟨fuel - 1, by omega⟩
    have e : (nI 0 - 1 : Int32) < 0 := by decide
    unfold lp
    refine ⟨nI set, ?_, rfl⟩
    simp only [f_Count_letGo_H_L111, e, ↓reduceIte] <;> rfl
  | succ n ih =>
    intro set fuel h1 h2 h3 h4
    obtain ⟨fuel, rfl⟩ : ∃ f, fuel = f + 1 := ⟨fuel - 1, by omega⟩
    have e : ¬ nI n < (0 : Int32) := nl_neg (by omega)
    have hp := zb_pc6 set h2
    rw [nI_pred]
    unfold lp qlS
    by_cases c : pcN set ≤ 1
    · refine ⟨nI set, ?_, by rw [if_pos c]⟩
      simp only [f_Count_letGo_H_L111, e, zb_bc set h2, bnd_eq, qa_1 (show pcN set < 2147483648 by omega), c, ↓reduceIte] <;> rfl
    · obtain ⟨r, e9, rfl⟩ := ih (ldS (vt n) set b) fuel (by omega) (ldS_lt h2) (sub_tr (ldS_sub h2) h3) (by omega)
      refine ⟨_, ?_, by rw [if_neg c]⟩
      have hl := f_lead_H (w := w) (a2 := nI n) (f := vt n) h2 (fun k hk hks => hv n (by omega) k hk (h3 k hk hks)) b
      simp only [f_Count_letGo_H_L111, e, zb_bc set h2, bnd_eq, qa_1 (show pcN set < 2147483648 by omega), c, ↓reduceIte, hl]
      rw [show nI n + (-1 : Int32) = nI n - 1 from (Int32.sub_eq_add_neg _ _).symm]
      exact e9
theorem f_keep_H {w : Wt} {L un : Nat} (hL : L < 64) (hu : w 28 2 = nI un) (hun : 1 < pcN L → un < 6) : f_Count_keepTie_H (nI L) w = some (if 1 < pcN L then upd2 (upd2 w 29 un (nI L)) 28 2 (nI (un + 1)) else w) := by
  have hp := zb_pc6 L hL
  unfold f_Count_keepTie_H
  rw [zb_bc L hL, bnd_eq]
  simp only [qa_1 (show pcN L < 2147483648 by omega)]
  by_cases c : pcN L ≤ 1
  · rw [if_pos c, if_neg (by omega)]
  · have h6 := hun (by omega)
    have e1 : ¬ (6 : Int32) ≤ nI un := by rw [qb_6 (by omega)]; omega
    have e2 : inb (nI un) 6 = true := nl_in (by omega) (by omega)
    have e3 : (nI un).toNatClampNeg = un := nl_cl (by omega)
    rw [if_neg c, if_pos (show 1 < pcN L by omega), hu, if_neg e1, e2, gd_t, nmd_eq, nmd_eq, e3]
    rw [upd2_n (show 28 ≠ 29 by decide), hu, nI_1]
theorem f_may_H {w : Wt} {tn : Nat} {vt : Nat → Nat → Int32} {wl num : Int32} {cmd : Nat} {δ : DS} (hcmd : cmd < 65536) (hδ : gdD δ) (hw : MMd 28 w δ) (hv : VV_H w δ.1 tn vt) (htn : tn ≤ 156) (h3 : w 28 3 = nI tn) (hwl : f_HandCount_weightOf (nI tn - 1) w = some wl) : f_Count_maySomeGo_H (nI cmd) num (nI (leadS vt tn (decide (cmd ≠ 120)) δ.1)) w = some (tI (mayS vt tn wl cmd num δ)) := by
  obtain ⟨d1, d2, d3, d4⟩ := hδ
  have hp := zb_pc6 δ.1 d1
  have hL : leadS vt tn (decide (cmd ≠ 120)) δ.1 < 64 := ldS_lt d1
  have hL0 : leadS vt tn (decide (cmd ≠ 120)) δ.1 = 0 ↔ δ.1 = 0 := ⟨fun e => Decidable.byContradiction fun g => ldS_ne d1 g e, fun e => by unfold leadS; rw [e, ldS_0]⟩
  unfold f_Count_maySomeGo_H mayS f_Count_maySomeGo_H_b74
  simp only [qe_120 (show cmd < 2147483648 by omega), qe_101 (show cmd < 2147483648 by omega), qe_0 (show leadS vt tn (decide (cmd ≠ 120)) δ.1 < 2147483648 by omega)]
  by_cases c : cmd = 120
  · rw [if_pos c, if_pos c, hw.1, zb_bc δ.1 d1, bnd_eq, hw.2.2.1]
    simp only [nl_le (show pcN δ.1 < 2147483648 by omega) (show δ.2.2.1 < 2147483648 by omega)]
    by_cases g : pcN δ.1 ≤ δ.2.2.1
    · rw [if_pos g, decide_eq_false (by omega)]; rfl
    · rw [if_neg g, decide_eq_true (by omega)]; rfl
  · rw [if_neg c, if_neg c]
    rw [decide_eq_true (show cmd ≠ 120 from c)] at hL hL0 ⊢
    by_cases c2 : cmd = 101
    · rw [if_pos c2]
      by_cases g : δ.1 = 0
      · rw [if_pos (hL0.mpr g), if_neg (show ¬ (cmd = 101 ∧ δ.1 ≠ 0) from fun e => e.2 g), decide_eq_false (fun e => e g)]
        simp only [if_pos (hL0.mpr g)]; rfl
      · rw [if_neg (fun e => g (hL0.mp e)), if_pos ⟨c2, g⟩, nmd_eq, h3, zb_low _ hL, bnd_eq]
        have hl6 := zb_lo6 _ hL
        have hlo : hs δ.1 (loN (leadS vt tn true δ.1)) = true := ldS_sub d1 _ hl6 (zb_lo _ hL (fun e => g (hL0.mp e)))
        rw [hv.lat htn _ hl6 hlo, bnd_eq, hwl, bnd_eq]
        by_cases g2 : (100 : Int32) * latV vt tn (loN (leadS vt tn true δ.1)) ≤ num * wl
        · rw [if_pos g2, decide_eq_false (fun e => e g2)]; rfl
        · rw [if_neg g2, decide_eq_true g2]; rfl
    · rw [if_neg c2, if_neg (show ¬ (cmd = 101 ∧ δ.1 ≠ 0) from fun e => c2 e.1)]
      by_cases g : δ.1 = 0
      · simp only [if_pos (hL0.mpr g)]
        rw [decide_eq_false (fun e => e g)]; rfl
      · simp only [if_neg (fun e => g (hL0.mp e))]
        rw [decide_eq_true g]; rfl
theorem f_rem_H {w : Wt} {S E O c : Nat} (hS : S < 64) (hE : E < 64) (hc : c < 6) (h5 : w 28 5 = nI S) (h6 : w 28 6 = nI E) (h4 : w 28 4 = nI O) (b : Bool) (hO : b = true → 0 < O) : Ok (f_Count_remove_H (nI c) (tI b) w) (fun w' => w' 28 5 = nI (rmv S c) ∧ w' 28 6 = nI (if b = true then adb E c else E) ∧ w' 28 4 = nI (if b = true then O - 1 else O) ∧ (∀ i, i ≠ 28 → w' i = w i) ∧ ∀ j, j ≠ 4 → j ≠ 5 → j ≠ 6 → w' 28 j = w 28 j) := by
  unfold f_Count_remove_H
  rw [h5, zb_rmv S hS c hc, nmd_eq]
  cases b with
  | false =>
    refine ⟨_, by rw [if_pos (show tI false = 0 from rfl)], ?_, ?_, ?_, ?_, ?_⟩
    · rw [upd2_at, if_pos rfl, if_pos rfl]
    · rw [upd2_at, if_pos rfl, if_neg (by decide)]; exact h6
    · rw [upd2_at, if_pos rfl, if_neg (by decide)]; exact h4
    · intro i hi; exact upd2_n hi
    · intro j h1 h2 h3; rw [upd2_at, if_pos rfl, if_neg h2]
  | true =>
    have hO' := hO rfl
    obtain ⟨o, rfl⟩ : ∃ o, O = o + 1 := ⟨O - 1, by omega⟩
    refine ⟨_, by rw [if_neg (show ¬ tI true = 0 from by decide), nmd_eq, nmd_eq], ?_, ?_, ?_, ?_, ?_⟩
    · rw [upd2_at, if_pos rfl, if_neg (by decide), upd2_at, if_pos rfl, if_neg (by decide), upd2_at, if_pos rfl, if_pos rfl]
    · rw [upd2_at, if_pos rfl, if_neg (by decide), upd2_at, if_pos rfl, if_pos rfl, upd2_at, if_pos rfl, if_neg (by decide), h6, zb_adb E hE c hc]; rfl
    · rw [upd2_at, if_pos rfl, if_pos rfl, upd2_at, if_pos rfl, if_neg (by decide), upd2_at, if_pos rfl, if_neg (by decide), h4, nI_pred]; rfl
    · intro i hi; rw [upd2_n hi, upd2_n hi, upd2_n hi]
    · intro j h1 h2 h3; rw [upd2_at, if_pos rfl, if_neg h1, upd2_at, if_pos rfl, if_neg h3, upd2_at, if_pos rfl, if_neg h2]

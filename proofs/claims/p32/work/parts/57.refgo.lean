/-! WHO GOES, in the reference -/
def VV_R (m : Wt) (S tn : Nat) (vt : Nat → Nat → Int32) : Prop := ∀ t, t < tn → ∀ k, k < 6 → hs S k = true → m_votesIn (nI t) (nI k) m = some (vt t k)
theorem VV_R.lat {m : Wt} {S tn : Nat} {vt : Nat → Nat → Int32} (h : VV_R m S tn vt) (htn : tn ≤ 156) : ∀ k, k < 6 → hs S k = true → m_votesIn (nI tn - 1) (nI k) m = some (latV vt tn k) := by
  intro k hk hs'
  unfold latV
  cases tn with
  | zero =>
    have e : (nI 0 - 1 : Int32) = -1 := by decide
    rw [e]
    unfold m_votesIn
    rw [if_neg (by decide)]; rfl
  | succ t =>
    rw [nI_pred, if_neg (by omega)]
    exact h t (by omega) k hk hs'
theorem vI_cong_R {m m' : Wt} (h : m' 25 = m 25) (a b : Int32) : m_votesIn a b m' = m_votesIn a b m := by
  unfold m_votesIn
  rw [h]
theorem VV_R.kp {m m' : Wt} {S tn : Nat} {vt : Nat → Nat → Int32} (h : VV_R m S tn vt) (k : m' 25 = m 25) : VV_R m' S tn vt := fun t ht c hc hs' => by
  rw [vI_cong_R k]; exact h t ht c hc hs'
theorem VV_R.sub {m : Wt} {S S' tn : Nat} {vt : Nat → Nat → Int32} (h : VV_R m S tn vt) (k : sub S' S) : VV_R m S' tn vt := fun t ht c hc hs' => h t ht c hc (k c hc hs')
theorem r_lead {m : Wt} {S : Nat} {a2 : Int32} {f : Nat → Int32} (hS : S < 64) (hv : ∀ k, k < 6 → hs S k = true → m_votesIn a2 (nI k) m = some (f k)) (b : Bool) : m_extreme (nI S) a2 (tI b) m = some (nI (ldS f S b)) := by
  have key : Ok (lp (m_extreme_L9 (nI S) a2 (tI b) m) FU ((0 : Int32), (0 : Int32), (0 : Int32))) (fun r => r = nI (ldS f S b)) := by
    refine Ok.count 6 (fun k z => z = (nI (ldI f S b k).1, (ldI f S b k).2, nI k)) (fun k z hk e => ?_) (fun z e => ?_) 6 FU 0 _ (by omega) (by show _ < 100000; omega) rfl
    · subst e
      have e1 : ¬ (6 : Int32) ≤ nI k := by rw [qb_6 (by omega)]; omega
      have ht := (ldI_ok (f := f) (b := b) hS k (by omega)).1
      refine Ok.eq (a := .inl (nI (ldI f S b (k + 1)).1, (ldI f S b (k + 1)).2, nI (k + 1))) ?_ rfl
      have hun : ldI f S b (k + 1) = if hs S k = true then (if (ldI f S b k).1 = 0 ∨ (if b = true then (ldI f S b k).2 < f k else f k < (ldI f S b k).2) then (2 ^ k, f k) else if f k = (ldI f S b k).2 then (adb (ldI f S b k).1 k, (ldI f S b k).2) else ldI f S b k) else ldI f S b k := rfl
      rw [hun]
      generalize ldI f S b k = p at ht
      obtain ⟨t, v⟩ := p
      dsimp only at ht ⊢
      cases c : hs S k with
      | false => simp only [m_extreme_L9, e1, zb_mhas S hS k hk, c, bnd_eq, tI0, nI_1, ↓reduceIte, Bool.false_eq_true]
      | true =>
        have h60 : m_extreme_b60 (nI S) a2 (tI b) (nI t) v (nI k) (f k) m = some (.inl (nI (2 ^ k), f k, nI (k + 1))) := by
          unfold m_extreme_b60 m_extreme_b65 m_extreme_b98
          rw [if_neg (by decide), if_neg (by decide), zb_one k hk, nI_1]
        have h64 : m_extreme_b64 (nI S) a2 (tI b) (nI t) v (nI k) (f k) m = some (.inl (if f k = v then (nI (adb t k), v, nI (k + 1)) else (nI t, v, nI (k + 1)))) := by
          unfold m_extreme_b64 m_extreme_b65 m_extreme_b98
          rw [if_pos rfl, zb_adb t ht k hk, nI_1]
          by_cases c3 : f k = v
          · rw [if_pos c3, if_pos c3]; rfl
          · rw [if_neg c3, if_neg c3]; rfl
        simp only [m_extreme_L9, e1, zb_mhas S hS k hk, c, bnd_eq, tI0, ↓reduceIte, Bool.true_eq_false, hv k hk c, qe_0 (show t < 2147483648 by omega), h60, h64]
        by_cases c1 : t = 0
        · simp only [c1, true_or, ↓reduceIte]
        · simp only [c1, false_or, ↓reduceIte]
          cases b with
          | false =>
            simp only [↓reduceIte, Bool.false_eq_true]
            by_cases c2 : f k < v
            · rw [if_neg (Int32.not_le.mpr c2), if_pos c2]
            · rw [if_pos (Int32.not_lt.mp c2), if_neg c2]
              by_cases c3 : f k = v
              · rw [if_pos c3, if_pos c3]
              · rw [if_neg c3, if_neg c3]
          | true =>
            simp only [↓reduceIte, Bool.true_eq_false]
            by_cases c2 : v < f k
            · rw [if_neg (Int32.not_le.mpr c2), if_pos c2]
            · rw [if_pos (Int32.not_lt.mp c2), if_neg c2]
              by_cases c3 : f k = v
              · rw [if_pos c3, if_pos c3]
              · rw [if_neg c3, if_neg c3]
    · subst e
      have e1 : (6 : Int32) ≤ nI 6 := by decide
      exact Ok.eq (a := .inr _) (by simp only [m_extreme_L9, e1, ↓reduceIte]; rfl) rfl
  obtain ⟨r, e, rfl⟩ := key
  unfold m_extreme
  rw [e]; rfl
def bcR (B : Nat) : Nat := if B = 108 then 0 else if B = 104 then 1 else 2
theorem bc_2 {B : Nat} (h : B = 108 ∨ B = 104 ∨ B = 113) : (bcR B = 2) = (B = 113) := by rcases h with rfl | rfl | rfl <;> simp [bcR]
theorem bc_1 {B : Nat} (h : B = 108 ∨ B = 104 ∨ B = 113) : (bcR B = 1) = (B = 104) := by rcases h with rfl | rfl | rfl <;> simp [bcR]
theorem bc_lt (B : Nat) : bcR B < 3 := by unfold bcR; split <;> (try split) <;> omega
/-- the reference's loop over a set, for the lowest or the highest -/
def pk90 (b : Bool) (L : Int32) : (Int32 × Int32) → Option ((Int32 × Int32) ⊕ Int32)
  | (l3, l4) => (if (6 : Int32) ≤ l4 then some (.inr l3) else Option.bind (m_has L l4) fun x2 => (if x2 = (0 : Int32) then some (.inl (l3, (l4 + 1))) else (if l3 < (0 : Int32) then some (.inl (l4, (l4 + 1))) else (if b = true then some (.inl (l4, (l4 + 1))) else some (.inl (l3, (l4 + 1)))))))
theorem pk90_eq : ∀ s, s < 64 → s ≠ 0 → lp (pk90 false (nI s)) 7 ((-1 : Int32), (0 : Int32)) = some (nI (loN s)) ∧ lp (pk90 true (nI s)) 7 ((-1 : Int32), (0 : Int32)) = some (nI (hiN s)) := by decide +kernel
theorem lp_more {σ ρ : Type} {b : σ → Option (σ ⊕ ρ)} {r : ρ} : ∀ (n d : Nat) (s : σ), lp b n s = some r → lp b (n + d) s = some r := by
  intro n
  induction n with
  | zero => intro d s h; cases h
  | succ n ih =>
    intro d s h
    rw [show n + 1 + d = (n + d) + 1 from by omega]
    unfold lp at h ⊢
    cases e : b s with
    | none => rw [e] at h; cases h
    | some x =>
      rw [e] at h
      cases x with
      | inl s' => exact ih d s' h
      | inr r' => exact h
theorem r_pick {m : Wt} {B L : Nat} (hL : L < 64) (h0 : L ≠ 0) (hB : m 0 39 = nI (bcR B)) (hB3 : B = 108 ∨ B = 104 ∨ B = 113) : m_chosen_b85 (nI L) m = some (nI (pickS B L), m) := by
  have e : m_chosen_L90 (nI L) m = pk90 (decide (B = 104)) (nI L) := by
    funext x
    obtain ⟨x1, x2⟩ := x
    have := bc_lt B
    simp only [m_chosen_L90, pk90, hB, qe_1 (show bcR B < 2147483648 by omega), bc_1 hB3, decide_eq_true_eq]
  unfold m_chosen_b85
  rw [e]
  obtain ⟨p1, p2⟩ := pk90_eq L hL h0
  unfold pickS
  by_cases c : B = 104
  · rw [decide_eq_true c, if_pos c, show FU = 7 + 99993 from rfl, lp_more 7 99993 _ p2]; rfl
  · rw [decide_eq_false c, if_neg c, show FU = 7 + 99993 from rfl, lp_more 7 99993 _ p1]; rfl
theorem r_ql {m : Wt} {S tn B : Nat} {vt : Nat → Nat → Int32} {b : Bool} (hS : S < 64) (hv : VV_R m S tn vt) (htn : tn ≤ 156) (hB : m 0 39 = nI (bcR B)) (hB3 : B = 113) : ∀ n set fuel, n ≤ tn → set < 64 → sub set S → n < fuel → Ok (lp (m_chosen_L51 (tI b) m) fuel (nI set, nI n - 1)) (fun r => r = nI (qlS vt b n set)) := by
  intro n
  have h2' : m 0 39 = (2 : Int32) := by rw [hB, hB3]; rfl
  induction n with
  | zero =>
    intro set fuel h1 h2 h3 h4
    obtain ⟨fuel, rfl⟩ : ∃ f, fuel = f + 1 := ⟨fuel - 1, by omega⟩
    have e : (nI 0 - 1 : Int32) < 0 := by decide
    unfold lp
    refine ⟨nI set, ?_, rfl⟩
    simp only [m_chosen_L51, e, ↓reduceIte] <;> rfl
  | succ n ih =>
    intro set fuel h1 h2 h3 h4
    obtain ⟨fuel, rfl⟩ : ∃ f, fuel = f + 1 := ⟨fuel - 1, by omega⟩
    have e : ¬ nI n < (0 : Int32) := nl_neg (by omega)
    have hp := zb_pc6 set h2
    rw [nI_pred]
    unfold lp qlS
    by_cases c : pcN set ≤ 1
    · refine ⟨nI set, ?_, by rw [if_pos c]⟩
      simp only [m_chosen_L51, e, h2', zb_size set h2, bnd_eq, qa_1 (show pcN set < 2147483648 by omega), c, ↓reduceIte] <;> rfl
    · obtain ⟨r, e9, rfl⟩ := ih (ldS (vt n) set b) fuel (by omega) (ldS_lt h2) (sub_tr (ldS_sub h2) h3) (by omega)
      refine ⟨_, ?_, by rw [if_neg c]⟩
      have hl := r_lead (m := m) (a2 := nI n) (f := vt n) h2 (fun k hk hks => hv n (by omega) k hk (h3 k hk hks)) b
      simp only [m_chosen_L51, e, h2', zb_size set h2, bnd_eq, qa_1 (show pcN set < 2147483648 by omega), c, ↓reduceIte, hl]
      rw [show nI n + (-1 : Int32) = nI n - 1 from (Int32.sub_eq_add_neg _ _).symm]
      exact e9
/-- the reference's cells of a count; n0: how many stood first -/
def RRd (m : Wt) (n0 : Nat) (δ : DS) : Prop := m 0 36 = nI δ.1 ∧ m 0 37 = nI δ.2.1 ∧ m 0 38 = nI δ.2.2.1 ∧ m 0 35 = nI δ.2.2.2.1 ∧ (∀ i, i < δ.2.2.2.1 → m 26 i = nI (δ.2.2.2.2 i)) ∧ m 0 40 = nI (n0 - pcN δ.1) ∧ pcN δ.1 ≤ n0 ∧ n0 ≤ 6
def KpR (m m' : Wt) : Prop := (∀ i, i ≠ 0 → i ≠ 26 → m' i = m i) ∧ ∀ j, j ≠ 35 → j ≠ 36 → j ≠ 37 → j ≠ 38 → j ≠ 40 → m' 0 j = m 0 j
theorem KpR.rfl' {m : Wt} : KpR m m := ⟨fun _ _ _ => rfl, fun _ _ _ _ _ _ => rfl⟩
theorem KpR.tr {a b d : Wt} (h : KpR a b) (g : KpR b d) : KpR a d := ⟨fun i h1 h2 => (g.1 i h1 h2).trans (h.1 i h1 h2), fun j h1 h2 h3 h4 h5 => (g.2 j h1 h2 h3 h4 h5).trans (h.2 j h1 h2 h3 h4 h5)⟩
theorem r_chosen {m : Wt} {S tn B un : Nat} {us : Nat → Nat} {vt : Nat → Nat → Int32} {b : Bool} (hS : S < 64) (h0 : S ≠ 0) (hun : un + pcN S ≤ 6) (h36 : m 0 36 = nI S) (h35 : m 0 35 = nI un) (h26 : ∀ i, i < un → m 26 i = nI (us i)) (hv : VV_R m S tn vt) (htn : tn ≤ 156) (h32 : m 0 32 = nI tn) (hB : m 0 39 = nI (bcR B)) (hB3 : B = 108 ∨ B = 104 ∨ B = 113) :
    Ok (m_chosen (tI b) m) (fun x => x.1 = nI (choS vt tn B b S) ∧ (∀ i, i ≠ 0 → i ≠ 26 → x.2 i = m i) ∧ (∀ j, j ≠ 35 → x.2 0 j = m 0 j) ∧ x.2 0 35 = nI (if 1 < pcN (leadS vt tn b S) then un + 1 else un) ∧ (∀ i, i < (if 1 < pcN (leadS vt tn b S) then un + 1 else un) → x.2 26 i = nI ((if 1 < pcN (leadS vt tn b S) then fup us un (leadS vt tn b S) else us) i)) ∧ ∀ i, i < un → x.2 26 i = nI (us i)) := by
  have hL : m_extreme (nI S) (nI tn - 1) (tI b) m = some (nI (leadS vt tn b S)) := r_lead hS (hv.lat htn) b
  have l1 : leadS vt tn b S < 64 := ldS_lt hS
  have l2 : leadS vt tn b S ≠ 0 := ldS_ne hS h0
  have l3 : sub (leadS vt tn b S) S := ldS_sub hS
  have hp := zb_pc6 _ l1
  have h44 : ∀ m1 : Wt, m1 25 = m 25 → m1 0 32 = m 0 32 → m1 0 39 = m 0 39 → m_chosen_b44 (tI b) (nI (leadS vt tn b S)) m1 = some (nI (choS vt tn B b S), m1) := by
    intro m1 g25 g32 g39
    unfold m_chosen_b44
    rw [nmd_eq, g32, h32]
    have hB1 : m1 0 39 = nI (bcR B) := by rw [g39]; exact hB
    have hpick : ∀ L, L < 64 → L ≠ 0 → m_chosen_x51 m1 (nI L) = some (nI (pickS B L), m1) := fun L g1 g2 => r_pick g1 g2 hB1 hB3
    have hex : ∀ t0 : Int32, (t0 < 0 ∨ B ≠ 113) → lp (m_chosen_L51 (tI b) m1) FU (nI (leadS vt tn b S), t0) = some (nI (leadS vt tn b S)) := by
      intro t0 ht0
      show lp _ (99999 + 1) _ = _
      have := bc_lt B
      unfold lp
      by_cases hneg : t0 < 0
      · simp only [m_chosen_L51, hneg, ↓reduceIte] <;> rfl
      · have hB9 : ¬ B = 113 := by rcases ht0 with g | g; exact absurd g hneg; exact g
        simp only [m_chosen_L51, hneg, hB1, qe_2 (show bcR B < 2147483648 by omega), bc_2 hB3, hB9, ↓reduceIte] <;> rfl
    unfold choS
    by_cases cB : B = 113
    · rw [if_pos cB]
      cases tn with
      | zero =>
        rw [hex _ (Or.inl (by decide)), bnd_eq]
        exact hpick _ l1 l2
      | succ t =>
        rw [show nI (t + 1) - (2 : Int32) = nI t - 1 from by
          rw [← nI_1 t, Int32.sub_eq_add_neg, Int32.sub_eq_add_neg, Int32.add_assoc]; rfl]
        obtain ⟨r, e, rfl⟩ := r_ql (m := m1) (b := b) hS (hv.kp g25) htn hB1 cB t _ FU (by omega) l1 l3 (by show _ < 100000; omega)
        obtain ⟨q1, q2, -⟩ := qlS_ok (vt := vt) (b := b) t _ l1 l2
        rw [e, bnd_eq, hpick _ q1 q2]; rfl
    · rw [if_neg cB, hex _ (Or.inr cB), bnd_eq]
      exact hpick _ l1 l2
  unfold m_chosen
  rw [h36, h32, hL, bnd_eq, zb_size _ l1, bnd_eq]
  simp only [qa_1 (show pcN (leadS vt tn b S) < 2147483648 by omega)]
  by_cases c : pcN (leadS vt tn b S) ≤ 1
  · have c' : ¬ 1 < pcN (leadS vt tn b S) := by omega
    simp only [c, c', ↓reduceIte]
    exact ⟨_, h44 m rfl rfl rfl, rfl, fun _ _ _ => rfl, fun _ _ => rfl, h35, h26, h26⟩
  · have c' : 1 < pcN (leadS vt tn b S) := by omega
    have hps := zb_pc6 S hS
    have e2 : inb (nI un) 800 = true := nl_in (by omega) (by omega)
    have e3 : (nI un).toNatClampNeg = un := nl_cl (by omega)
    simp only [c, c', ↓reduceIte, h35, e2, gd_t, nmd_eq, e3]
    have g1 : upd2 m 26 un (nI (leadS vt tn b S)) 0 35 = nI un := by rw [upd2_n (by decide)]; exact h35
    rw [g1, nI_1]
    refine ⟨_, h44 _ ?_ ?_ ?_, rfl, fun i h1 h2 => ?_, fun j hj => ?_, ?_, fun i hi => ?_, fun i hi => ?_⟩
    · rw [upd2_n (by decide), upd2_n (by decide)]
    · rw [upd2_at, if_pos rfl, if_neg (by decide), upd2_n (by decide)]
    · rw [upd2_at, if_pos rfl, if_neg (by decide), upd2_n (by decide)]
    · dsimp only; rw [upd2_n h1, upd2_n h2]
    · dsimp only; rw [upd2_at, if_pos rfl, if_neg hj, upd2_n (by decide)]
    · dsimp only; rw [upd2_at, if_pos rfl, if_pos rfl]
    · dsimp only
      rw [upd2_n (by decide), upd2_at, if_pos rfl]
      unfold fup
      by_cases g2 : i = un
      · rw [if_pos g2, if_pos g2]
      · rw [if_neg g2, if_neg g2]; exact h26 i (by omega)
    · dsimp only
      rw [upd2_n (by decide), upd2_at, if_pos rfl, if_neg (by omega)]
      exact h26 i hi
theorem r_elects {m : Wt} {S E O c ev : Nat} (hS : S < 64) (hE : E < 64) (hc : c < 6) (h36 : m 0 36 = nI S) (h37 : m 0 37 = nI E) (h38 : m 0 38 = nI (O + 1)) (h40 : m 0 40 = nI ev) : Ok (m_elects (nI c) m) (fun m' => m' 0 36 = nI (rmv S c) ∧ m' 0 37 = nI (adb E c) ∧ m' 0 38 = nI O ∧ m' 0 40 = nI (ev + 1) ∧ (∀ i, i ≠ 0 → m' i = m i) ∧ ∀ j, j ≠ 36 → j ≠ 37 → j ≠ 38 → j ≠ 40 → m' 0 j = m 0 j) := by
  unfold m_elects
  rw [h36, zb_rmv S hS c hc]
  refine ⟨_, by simp only [nmd_eq] <;> rfl, ?_, ?_, ?_, ?_, fun i hi => ?_, fun j h1 h2 h3 h4 => ?_⟩
  · rw [upd2_at, if_pos rfl, if_neg (by decide), upd2_at, if_pos rfl, if_neg (by decide), upd2_at, if_pos rfl, if_neg (by decide), upd2_at, if_pos rfl, if_pos rfl]
  · rw [upd2_at, if_pos rfl, if_neg (by decide), upd2_at, if_pos rfl, if_neg (by decide), upd2_at, if_pos rfl, if_pos rfl, upd2_at, if_pos rfl, if_neg (by decide), h37, zb_adb E hE c hc]
  · rw [upd2_at, if_pos rfl, if_neg (by decide), upd2_at, if_pos rfl, if_pos rfl, upd2_at, if_pos rfl, if_neg (by decide), upd2_at, if_pos rfl, if_neg (by decide), h38, nI_pred]
  · rw [upd2_at, if_pos rfl, if_pos rfl, upd2_at, if_pos rfl, if_neg (by decide), upd2_at, if_pos rfl, if_neg (by decide), upd2_at, if_pos rfl, if_neg (by decide), h40, nI_1]
  · rw [upd2_n hi, upd2_n hi, upd2_n hi, upd2_n hi]
  · rw [upd2_at, if_pos rfl, if_neg h4, upd2_at, if_pos rfl, if_neg h3, upd2_at, if_pos rfl, if_neg h2, upd2_at, if_pos rfl, if_neg h1]
/-- one is elected -/
theorem r_one {m : Wt} {n0 tn B cmd : Nat} {vt : Nat → Nat → Int32} {wl num : Int32} {δ : DS} (hcmd : cmd ≠ 120) (hδ : gdD δ) (hO : 0 < δ.2.2.1) (hm : mayS vt tn wl cmd num δ = true) (hR : RRd m n0 δ) (hv : VV_R m δ.1 tn vt) (htn : tn ≤ 156) (h32 : m 0 32 = nI tn) (hB : m 0 39 = nI (bcR B)) (hB3 : B = 108 ∨ B = 104 ∨ B = 113) :
    Ok (Option.bind (m_chosen (1 : Int32) m) fun x => m_elects x.1 x.2) (fun m' => RRd m' n0 (elS vt tn B (decide (cmd ≠ 120)) δ) ∧ KpR m m') := by
  have hel := elS_gd (vt := vt) (tn := tn) (B := B) (cmd := cmd) (wl := wl) (num := num) hδ hO hm
  have hne := may_ne hδ.1 hm
  rw [decide_eq_true hcmd] at hel ⊢
  obtain ⟨S, E, O, un, us⟩ := δ
  obtain ⟨d1, d2, d3, d4⟩ := hδ
  obtain ⟨r1, r2, r3, r4, r5, r6, r7, r8⟩ := hR
  dsimp only at d1 d2 d3 d4 r1 r2 r3 r4 r5 r6 r7 hO hv hne
  obtain ⟨c1, c2, c3⟩ := choS_in (vt := vt) (tn := tn) (B := B) (b := true) d1 hne
  obtain ⟨o, rfl⟩ : ∃ o, O = o + 1 := ⟨O - 1, by omega⟩
  obtain ⟨⟨z, m1⟩, e1, f1, f2, f3, f4, f5, -⟩ := r_chosen (b := true) d1 hne d4 r1 r4 r5 hv htn h32 hB hB3
  dsimp only at f1 f2 f3 f4 f5
  subst f1
  obtain ⟨m2, e2, g1, g2, g3, g4, g5, g6⟩ := r_elects (m := m1) (ev := n0 - pcN S) d1 d2 c1 (by rw [f3 36 (by decide)]; exact r1) (by rw [f3 37 (by decide)]; exact r2) (by rw [f3 38 (by decide)]; exact r3) (by rw [f3 40 (by decide)]; exact r6)
  have hpp := hel.2
  unfold elS at hpp
  dsimp only at hpp
  refine ⟨m2, ?_, ⟨g1, ?_, ?_, ?_, fun i hi => ?_, ?_, ?_, r8⟩, fun i h1 h2 => ?_, fun j h1 h2 h3 h4 h5 => ?_⟩
  · rw [show (1 : Int32) = tI true from rfl, e1]; exact e2
  · exact g2
  · exact g3
  · rw [g6 35 (by decide) (by decide) (by decide) (by decide)]; exact f4
  · rw [g5 26 (by decide)]; exact f5 i hi
  · rw [g4]
    unfold elS
    dsimp only
    rw [show n0 - pcN S + 1 = n0 - pcN (rmv S (choS vt tn B true S)) by omega]
  · unfold elS
    dsimp only
    omega
  · rw [g5 i h1]; exact f2 i h1 h2
  · rw [g6 j h2 h3 h4 h5]; exact f3 j h1
/-- what a command of these leaves -/
def GoR (m : Wt) (n0 tn B : Nat) (vt : Nat → Nat → Int32) (wl num : Int32) (cmd n : Nat) (δ : DS) (m' : Wt) : Prop := RRd m' n0 (lgS vt tn B wl cmd num n δ) ∧ gdD (lgS vt tn B wl cmd num n δ) ∧ KpR m m' ∧ sub (lgS vt tn B wl cmd num n δ).1 δ.1
theorem GoR.stay {m : Wt} {n0 tn B cmd n : Nat} {vt : Nat → Nat → Int32} {wl num : Int32} {δ : DS} (hδ : gdD δ) (hR : RRd m n0 δ) (h : ¬ (0 < δ.2.2.1 ∧ mayS vt tn wl cmd num δ = true)) : GoR m n0 tn B vt wl num cmd n δ m := by
  have e : lgS vt tn B wl cmd num n δ = δ := by
    cases n with
    | zero => rfl
    | succ n => show (if _ then _ else _) = _; rw [if_neg h]
  unfold GoR
  rw [e]
  exact ⟨hR, hδ, KpR.rfl', sub_rfl⟩
theorem GoR.step {m m1 m2 : Wt} {n0 tn B cmd n : Nat} {vt : Nat → Nat → Int32} {wl num : Int32} {δ : DS} (hδ : gdD δ) (hO : 0 < δ.2.2.1) (hm : mayS vt tn wl cmd num δ = true) (hk : KpR m m1) (h : GoR m1 n0 tn B vt wl num cmd n (elS vt tn B (decide (cmd ≠ 120)) δ) m2) : GoR m n0 tn B vt wl num cmd (n + 1) δ m2 := by
  have e : lgS vt tn B wl cmd num (n + 1) δ = lgS vt tn B wl cmd num n (elS vt tn B (decide (cmd ≠ 120)) δ) := by
    show (if _ then _ else _) = _
    rw [if_pos ⟨hO, hm⟩]
  have hsub : sub (elS vt tn B (decide (cmd ≠ 120)) δ).1 δ.1 := sub_rmv hδ.1 (choS_in hδ.1 (may_ne hδ.1 hm)).1
  unfold GoR
  rw [e]
  exact ⟨h.1, h.2.1, hk.tr h.2.2.1, sub_tr h.2.2.2 hsub⟩
theorem r_exit {l1 : Nat} {m : Wt} (h1 : l1 < 65536) (h : l1 ≠ 114) : Option.bind (lp (m_does_L145 (nI l1)) FU m) m_does_x145 = some m := by
  show Option.bind (lp _ (99999 + 1) _) _ = _
  unfold lp
  simp only [m_does_L145, qe_114 (show l1 < 2147483648 by omega), h, ↓reduceIte] <;> rfl
theorem r_102 {l1 : Nat} {m : Wt} (h1 : l1 = 109 ∨ l1 = 120 ∨ l1 = 114) : m_does_b102 (nI l1) m = Option.bind (lp (m_does_L145 (nI l1)) FU m) m_does_x145 := by
  unfold m_does_b102
  rcases h1 with rfl | rfl | rfl <;> rw [if_neg (by decide), if_neg (by decide), if_neg (by decide)]
theorem r_loop {n0 tn B : Nat} {vt : Nat → Nat → Int32} {wl num : Int32} (htn : tn ≤ 156) (hB3 : B = 108 ∨ B = 104 ∨ B = 113) : ∀ d fuel (m : Wt) (δ : DS), δ.2.2.1 ≤ d → d < fuel → gdD δ → RRd m n0 δ → VV_R m δ.1 tn vt → m 0 32 = nI tn → m 0 39 = nI (bcR B) → Ok (lp (m_does_L145 (nI 114)) fuel m) (fun m' => GoR m n0 tn B vt wl num 114 d δ m') := by
  intro d
  induction d with
  | zero =>
    intro fuel m δ h1 h2 hδ hR hv h32 hB
    obtain ⟨fuel, rfl⟩ : ∃ f, fuel = f + 1 := ⟨fuel - 1, by omega⟩
    have e : m 0 38 ≤ (0 : Int32) := by rw [hR.2.2.1, qa_0 (by omega)]; omega
    unfold lp
    refine ⟨m, ?_, GoR.stay hδ hR (by omega)⟩
    simp only [m_does_L145, show nI 114 = (114 : Int32) from rfl, e, ↓reduceIte] <;> rfl
  | succ d ih =>
    intro fuel m δ h1 h2 hδ hR hv h32 hB
    obtain ⟨fuel, rfl⟩ : ∃ f, fuel = f + 1 := ⟨fuel - 1, by omega⟩
    have hp := zb_pc6 δ.1 hδ.1
    have hp2 := hδ.2.2.1
    have hS := hδ.1
    have hmay : mayS vt tn wl 114 num δ = decide (δ.1 ≠ 0) := by
      unfold mayS
      rw [if_neg (by decide), if_neg (fun e => by cases e.1)]
    unfold lp
    by_cases hO : 0 < δ.2.2.1
    · have e : ¬ m 0 38 ≤ (0 : Int32) := by rw [hR.2.2.1, qa_0 (by omega)]; omega
      by_cases h0 : δ.1 = 0
      · refine ⟨m, ?_, GoR.stay hδ hR (fun g => by rw [hmay, h0] at g; cases g.2)⟩
        simp only [m_does_L145, show nI 114 = (114 : Int32) from rfl, e, hR.1, qe_0 (show δ.1 < 2147483648 by omega), h0, ↓reduceIte] <;> rfl
      · have hm : mayS vt tn wl 114 num δ = true := by rw [hmay]; exact decide_eq_true h0
        obtain ⟨m1, e1, hR1, hk1⟩ := r_one (B := B) (by decide) hδ hO hm hR hv htn h32 hB hB3
        have hg := elS_gd (vt := vt) (tn := tn) (B := B) hδ hO hm
        have hsub : sub (elS vt tn B (decide ((114 : Nat) ≠ 120)) δ).1 δ.1 := sub_rmv hδ.1 (choS_in hδ.1 h0).1
        obtain ⟨m2, e2, g2⟩ := ih fuel m1 (elS vt tn B (decide ((114 : Nat) ≠ 120)) δ) (by unfold elS; dsimp only; rw [if_pos (by decide)]; omega) (by omega) hg.1 hR1 ((hv.kp (hk1.1 25 (by decide) (by decide))).sub hsub) (by rw [hk1.2 32 (by decide) (by decide) (by decide) (by decide) (by decide)]; exact h32) (by rw [hk1.2 39 (by decide) (by decide) (by decide) (by decide) (by decide)]; exact hB)
        refine ⟨m2, ?_, GoR.step hδ hO hm hk1 g2⟩
        obtain ⟨x, ex, ex2⟩ : ∃ x, m_chosen (1 : Int32) m = some x ∧ m_elects x.1 x.2 = some m1 := by
          cases hx : m_chosen (1 : Int32) m with
          | none => rw [hx] at e1; cases e1
          | some x => rw [hx] at e1; exact ⟨x, rfl, e1⟩
        simp only [m_does_L145, show nI 114 = (114 : Int32) from rfl, e, hR.1, qe_0 (show δ.1 < 2147483648 by omega), h0, ↓reduceIte, ex, ex2, bnd_eq]
        exact e2
    · have e : m 0 38 ≤ (0 : Int32) := by rw [hR.2.2.1, qa_0 (by omega)]; omega
      refine ⟨m, ?_, GoR.stay hδ hR (fun g => hO g.1)⟩
      simp only [m_does_L145, show nI 114 = (114 : Int32) from rfl, e, ↓reduceIte] <;> rfl
theorem r_does_r {m : Wt} {n0 tn B : Nat} {vt : Nat → Nat → Int32} {wl num : Int32} {δ : DS} (hδ : gdD δ) (hR : RRd m n0 δ) (hv : VV_R m δ.1 tn vt) (htn : tn ≤ 156) (h32 : m 0 32 = nI tn) (hB : m 0 39 = nI (bcR B)) (hB3 : B = 108 ∨ B = 104 ∨ B = 113) : Ok (m_does (nI 114) m) (fun m' => GoR m n0 tn B vt wl num 114 6 δ m') := by
  have hp := zb_pc6 δ.1 hδ.1
  have hp2 := hδ.2.2.1
  obtain ⟨m', e, g⟩ := r_loop (wl := wl) (num := num) htn hB3 6 FU m δ (by omega) (by show _ < 100000; omega) hδ hR hv h32 hB
  refine ⟨m', ?_, g⟩
  unfold m_does m_does_b51
  rw [if_neg (by decide), if_neg (by decide), if_neg (by decide), if_neg (by decide), if_neg (by decide), r_102 (Or.inr (Or.inr rfl)), e]
  rfl
theorem r_does_m {m : Wt} {n0 tn B : Nat} {vt : Nat → Nat → Int32} {wl num : Int32} {δ : DS} (hδ : gdD δ) (hO : 0 < δ.2.2.1) (hR : RRd m n0 δ) (hv : VV_R m δ.1 tn vt) (htn : tn ≤ 156) (h32 : m 0 32 = nI tn) (hB : m 0 39 = nI (bcR B)) (hB3 : B = 108 ∨ B = 104 ∨ B = 113) : Ok (m_does (nI 109) m) (fun m' => GoR m n0 tn B vt wl num 109 1 δ m') := by
  have hS := hδ.1
  have hmay : mayS vt tn wl 109 num δ = decide (δ.1 ≠ 0) := by
    unfold mayS
    rw [if_neg (by decide), if_neg (fun e => by cases e.1)]
  unfold m_does
  rw [if_neg (by decide), if_neg (by decide), if_neg (by decide), if_pos (by decide), hR.1]
  simp only [qe_0 (show δ.1 < 2147483648 by omega)]
  by_cases h0 : δ.1 = 0
  · refine ⟨m, ?_, GoR.stay hδ hR (fun g => by rw [hmay, h0] at g; cases g.2)⟩
    unfold m_does_b51
    rw [if_pos h0, if_neg (by decide), r_102 (Or.inl rfl), r_exit (by decide) (by decide)]
  · have hm : mayS vt tn wl 109 num δ = true := by rw [hmay]; exact decide_eq_true h0
    obtain ⟨m1, e1, hR1, hk1⟩ := r_one (B := B) (by decide) hδ hO hm hR hv htn h32 hB hB3
    have hg := elS_gd (vt := vt) (tn := tn) (B := B) hδ hO hm
    obtain ⟨x, ex, ex2⟩ : ∃ x, m_chosen (1 : Int32) m = some x ∧ m_elects x.1 x.2 = some m1 := by
      cases hx : m_chosen (1 : Int32) m with
      | none => rw [hx] at e1; cases e1
      | some x => rw [hx] at e1; exact ⟨x, rfl, e1⟩
    refine ⟨m1, ?_, GoR.step hδ hO hm hk1 ⟨hR1, hg.1, KpR.rfl', sub_rfl⟩⟩
    rw [if_neg h0, ex, bnd_eq, ex2, bnd_eq, r_exit (by decide) (by decide)]
theorem r_does_x {m : Wt} {n0 tn B : Nat} {vt : Nat → Nat → Int32} {wl num : Int32} {δ : DS} (hδ : gdD δ) (hO : 0 < δ.2.2.1) (hR : RRd m n0 δ) (hv : VV_R m δ.1 tn vt) (htn : tn ≤ 156) (h32 : m 0 32 = nI tn) (hB : m 0 39 = nI (bcR B)) (hB3 : B = 108 ∨ B = 104 ∨ B = 113) : Ok (m_does (nI 120) m) (fun m' => GoR m n0 tn B vt wl num 120 1 δ m') := by
  have hmay : mayS vt tn wl 120 num δ = decide (δ.2.2.1 < pcN δ.1) := by
    unfold mayS
    rw [if_pos rfl]
  have hel := fun h => elS_gd (vt := vt) (tn := tn) (B := B) (cmd := 120) (wl := wl) (num := num) hδ hO h
  have hstep := fun (m1 m2 : Wt) (hm : mayS vt tn wl 120 num δ = true) (hk : KpR m m1) => GoR.step (m2 := m2) (n0 := n0) (n := 0) (B := B) hδ hO hm hk
  have hstay := GoR.stay (m := m) (n0 := n0) (tn := tn) (B := B) (cmd := 120) (n := 1) (vt := vt) (wl := wl) (num := num) hδ hR
  unfold m_does
  rw [if_neg (by decide), if_neg (by decide), if_neg (by decide), if_neg (by decide)]
  unfold m_does_b51
  obtain ⟨S, E, O, un, us⟩ := δ
  have hR0 := hR
  obtain ⟨d1, d2, d3, d4⟩ := hδ
  obtain ⟨r1, r2, r3, r4, r5, r6, r7, r8⟩ := hR
  dsimp only at d1 d2 d3 d4 r1 r2 r3 r4 r5 r6 r7 hO hv hmay
  have hp := zb_pc6 S d1
  rw [if_pos (by decide), r1, zb_size S d1, bnd_eq, r3]
  simp only [nl_le (show pcN S < 2147483648 by omega) (show O < 2147483648 by omega)]
  by_cases c : pcN S ≤ O
  · rw [if_pos c]
    refine ⟨m, ?_, hstay (fun g => by rw [hmay, decide_eq_false (by omega)] at g; cases g.2)⟩
    rw [r_102 (Or.inr (Or.inl rfl)), r_exit (by decide) (by decide)]
  · have hm : mayS vt tn wl 120 num (S, E, O, un, us) = true := by rw [hmay]; exact decide_eq_true (by omega)
    have hne : S ≠ 0 := fun e => by have := (zb_pc0 S d1).mpr e; omega
    obtain ⟨c1, c2, c3⟩ := choS_in (vt := vt) (tn := tn) (B := B) (b := false) d1 hne
    obtain ⟨⟨z, m1⟩, e1, f1, f2, f3, f4, f5, -⟩ := r_chosen (b := false) d1 hne d4 r1 r4 r5 hv htn h32 hB hB3
    dsimp only at f1 f2 f3 f4 f5
    subst f1
    have hpp := zb_rpc S d1 _ c1 c3
    rw [if_neg c, show (0 : Int32) = tI false from rfl, e1, bnd_eq]
    dsimp only
    rw [zb_rmv S d1 _ c1, nmd_eq, nmd_eq, r_exit (by decide) (by decide)]
    generalize hm2 : upd2 (upd2 m1 0 36 (nI (rmv S (choS vt tn B false S)))) 0 40 (upd2 m1 0 36 (nI (rmv S (choS vt tn B false S))) 0 40 + 1) = m2
    have k1 : ∀ i, i ≠ 0 → m2 i = m1 i := fun i hi => by rw [← hm2, upd2_n hi, upd2_n hi]
    have k2 : ∀ j, j ≠ 36 → j ≠ 40 → m2 0 j = m1 0 j := fun j h1 h2 => by rw [← hm2, upd2_at, if_pos rfl, if_neg h2, upd2_at, if_pos rfl, if_neg h1]
    have k3 : m2 0 36 = nI (rmv S (choS vt tn B false S)) := by rw [← hm2, upd2_at, if_pos rfl, if_neg (by decide), upd2_at, if_pos rfl, if_pos rfl]
    have k4 : m2 0 40 = nI (n0 - pcN (rmv S (choS vt tn B false S))) := by
      rw [← hm2, upd2_at, if_pos rfl, if_pos rfl, upd2_at, if_pos rfl, if_neg (by decide), f3 40 (by decide), r6, nI_1]
      congr 1; omega
    have hkp : KpR m m2 := ⟨fun i h1 h2 => by rw [k1 i h1]; exact f2 i h1 h2, fun j h1 h2 h3 h4 h5 => by rw [k2 j h2 h5]; exact f3 j h1⟩
    refine ⟨m2, rfl, hstep m2 m2 hm hkp ⟨⟨k3, ?_, ?_, ?_, fun i hi => ?_, k4, ?_, r8⟩, (hel hm).1, KpR.rfl', sub_rfl⟩⟩
    · rw [k2 37 (by decide) (by decide), f3 37 (by decide)]; exact r2
    · rw [k2 38 (by decide) (by decide), f3 38 (by decide)]; exact r3
    · rw [k2 35 (by decide) (by decide)]; exact f4
    · rw [k1 26 (by decide)]; exact f5 i hi
    · show pcN (rmv _ _) ≤ n0
      have : pcN (rmv S (choS vt tn B false S)) ≤ n0 := by omega
      exact this
theorem r_above {n0 tn B : Nat} {vt : Nat → Nat → Int32} {wl num : Int32} (htn : tn ≤ 156) (hB3 : B = 108 ∨ B = 104 ∨ B = 113) : ∀ d fuel (m : Wt) (δ : DS), δ.2.2.1 ≤ d → d + 1 < fuel → gdD δ → RRd m n0 δ → VV_R m δ.1 tn vt → m 0 32 = nI tn → m 0 33 = wl → m 0 39 = nI (bcR B) → Ok (lp (m_electsAbove_L2 num) fuel ((1 : Int32), m)) (fun m' => GoR m n0 tn B vt wl num 101 d δ m') := by
  intro d
  induction d with
  | zero =>
    intro fuel m δ h1 h2 hδ hR hv h32 h33 hB
    obtain ⟨fuel, rfl⟩ : ∃ f, fuel = f + 1 := ⟨fuel - 1, by omega⟩
    have e : m 0 38 ≤ (0 : Int32) := by rw [hR.2.2.1, qa_0 (by omega)]; omega
    unfold lp
    refine ⟨m, ?_, GoR.stay hδ hR (by omega)⟩
    simp only [m_electsAbove_L2, e, ↓reduceIte, show ¬ (1 : Int32) = 0 from by decide] <;> rfl
  | succ d ih =>
    intro fuel m δ h1 h2 hδ hR hv h32 h33 hB
    obtain ⟨fuel, rfl⟩ : ∃ f, fuel = f + 1 := ⟨fuel - 1, by omega⟩
    have hp := zb_pc6 δ.1 hδ.1
    have hp2 := hδ.2.2.1
    have hS := hδ.1
    unfold lp
    by_cases hO : 0 < δ.2.2.1
    · have e : ¬ m 0 38 ≤ (0 : Int32) := by rw [hR.2.2.1, qa_0 (by omega)]; omega
      by_cases h0 : δ.1 = 0
      · refine ⟨m, ?_, GoR.stay hδ hR (fun g => may_ne hS g.2 h0)⟩
        simp only [m_electsAbove_L2, e, hR.1, qe_0 (show δ.1 < 2147483648 by omega), h0, ↓reduceIte, show ¬ (1 : Int32) = 0 from by decide] <;> rfl
      · have hmay : mayS vt tn wl 101 num δ = decide (¬ (100 : Int32) * latV vt tn (loN (leadS vt tn true δ.1)) ≤ num * wl) := by
          unfold mayS
          rw [if_neg (by decide), if_pos ⟨rfl, h0⟩]
        have l1 : leadS vt tn true δ.1 < 64 := ldS_lt hS
        have l2 : leadS vt tn true δ.1 ≠ 0 := ldS_ne hS h0
        obtain ⟨c1, c2, c3⟩ := choS_in (vt := vt) (tn := tn) (B := B) (b := true) hS h0
        have heq : latV vt tn (choS vt tn B true δ.1) = latV vt tn (loN (leadS vt tn true δ.1)) := ldS_eq hS c1 (zb_lo6 _ l1) c2 (zb_lo _ l1 l2)
        rw [← heq] at hmay
        obtain ⟨x, ex, f1, f2, f3, f4, f5, f6⟩ := r_chosen (b := true) hS h0 hδ.2.2.2 hR.1 hR.2.2.2.1 hR.2.2.2.2.1 hv htn h32 hB hB3
        have ex' : m_chosen (1 : Int32) m = some x := ex
        have hvx : m_votesIn (x.2 0 32 - 1) (nI (choS vt tn B true δ.1)) x.2 = some (latV vt tn (choS vt tn B true δ.1)) := by
          rw [f3 32 (by decide), h32, vI_cong_R (f2 25 (by decide) (by decide))]
          exact hv.lat htn _ c1 c3
        have hx33 : x.2 0 33 = wl := by rw [f3 33 (by decide)]; exact h33
        by_cases cg : (100 : Int32) * latV vt tn (choS vt tn B true δ.1) ≤ num * wl
        · -- it is put back
          have hm : mayS vt tn wl 101 num δ = false := by rw [hmay]; exact decide_eq_false (fun g => g cg)
          refine ⟨upd2 x.2 0 35 (m 0 35), ?_, ?_⟩
          · simp only [m_electsAbove_L2, e, hR.1, qe_0 (show δ.1 < 2147483648 by omega), h0, ↓reduceIte, show ¬ (1 : Int32) = 0 from by decide, nmd_eq, ex', bnd_eq, f1, hvx, hx33, cg, m_electsAbove_b61, m_electsAbove_b75]
            obtain ⟨fuel, rfl⟩ : ∃ f, fuel = f + 1 := ⟨fuel - 1, by omega⟩
            show lp _ (fuel + 1) ((0 : Int32), _) = _
            unfold lp
            simp only [m_electsAbove_L2, ↓reduceIte] <;> rfl
          · have hs2 : ¬ (0 < δ.2.2.1 ∧ mayS vt tn wl 101 num δ = true) := fun g => by rw [hm] at g; cases g.2
            have hlg : lgS vt tn B wl 101 num (d + 1) δ = δ := by show (if _ then _ else _) = _; rw [if_neg hs2]
            unfold GoR
            rw [hlg]
            have hj : ∀ j, upd2 x.2 0 35 (m 0 35) 0 j = m 0 j := fun j => by
              rw [upd2_at, if_pos rfl]
              by_cases g : j = 35
              · rw [if_pos g, g]
              · rw [if_neg g]; exact f3 j g
            refine ⟨⟨?_, ?_, ?_, ?_, fun i hi => ?_, ?_, hR.2.2.2.2.2.2⟩, hδ, ⟨fun i h1 h2 => ?_, fun j _ _ _ _ _ => hj j⟩, sub_rfl⟩
            · rw [hj]; exact hR.1
            · rw [hj]; exact hR.2.1
            · rw [hj]; exact hR.2.2.1
            · rw [hj]; exact hR.2.2.2.1
            · rw [upd2_n (by decide)]; exact f6 i hi
            · rw [hj]; exact hR.2.2.2.2.2.1
            · rw [upd2_n h1]; exact f2 i h1 h2
        · have hm : mayS vt tn wl 101 num δ = true := by rw [hmay]; exact decide_eq_true cg
          -- its ties are written anew, as they are
          have hk9 : ∀ i k, upd2 x.2 0 35 (x.2 0 35) i k = x.2 i k := by
            intro i k
            rw [upd2_at]
            by_cases g1 : i = 0
            · by_cases g2 : k = 35
              · rw [if_pos g1, if_pos g2, g1, g2]
              · rw [if_pos g1, if_neg g2]
            · rw [if_neg g1]
          have hx9 : upd2 x.2 0 35 (x.2 0 35) = x.2 := funext fun i => funext fun k => hk9 i k
          obtain ⟨m1, e1, hR1, hk1⟩ := r_one (B := B) (by decide) hδ hO hm hR hv htn h32 hB hB3
          rw [ex', bnd_eq, f1] at e1
          have hg := elS_gd (vt := vt) (tn := tn) (B := B) hδ hO hm
          have hsub : sub (elS vt tn B (decide ((101 : Nat) ≠ 120)) δ).1 δ.1 := sub_rmv hδ.1 (choS_in hδ.1 h0).1
          obtain ⟨m2, e2, g2⟩ := ih fuel m1 (elS vt tn B (decide ((101 : Nat) ≠ 120)) δ) (by unfold elS; dsimp only; rw [if_pos (by decide)]; omega) (by omega) hg.1 hR1 ((hv.kp (hk1.1 25 (by decide) (by decide))).sub hsub) (by rw [hk1.2 32 (by decide) (by decide) (by decide) (by decide) (by decide)]; exact h32) (by rw [hk1.2 33 (by decide) (by decide) (by decide) (by decide) (by decide)]; exact h33) (by rw [hk1.2 39 (by decide) (by decide) (by decide) (by decide) (by decide)]; exact hB)
          refine ⟨m2, ?_, GoR.step hδ hO hm hk1 g2⟩
          simp only [m_electsAbove_L2, e, hR.1, qe_0 (show δ.1 < 2147483648 by omega), h0, ↓reduceIte, show ¬ (1 : Int32) = 0 from by decide, nmd_eq, ex', bnd_eq, f1, hvx, hx33, cg, m_electsAbove_b61, m_electsAbove_b75, hx9, e1]
          exact e2
    · have e : m 0 38 ≤ (0 : Int32) := by rw [hR.2.2.1, qa_0 (by omega)]; omega
      refine ⟨m, ?_, GoR.stay hδ hR (fun g => hO g.1)⟩
      simp only [m_electsAbove_L2, e, ↓reduceIte, show ¬ (1 : Int32) = 0 from by decide] <;> rfl
theorem r_does_e {m : Wt} {n0 tn B : Nat} {vt : Nat → Nat → Int32} {wl num : Int32} {δ : DS} (hδ : gdD δ) (hR : RRd m n0 δ) (hv : VV_R m δ.1 tn vt) (htn : tn ≤ 156) (h32 : m 0 32 = nI tn) (h33 : m 0 33 = wl) (hB : m 0 39 = nI (bcR B)) (hB3 : B = 108 ∨ B = 104 ∨ B = 113) : Ok (m_electsAbove num m) (fun m' => GoR m n0 tn B vt wl num 101 6 δ m') := by
  have hp := zb_pc6 δ.1 hδ.1
  have hp2 := hδ.2.2.1
  obtain ⟨m', e, g⟩ := r_above (wl := wl) (num := num) htn hB3 6 FU m δ (by omega) (by show _ < 100000; omega) hδ hR hv h32 h33 hB
  refine ⟨m', ?_, g⟩
  unfold m_electsAbove
  rw [e]
  rfl

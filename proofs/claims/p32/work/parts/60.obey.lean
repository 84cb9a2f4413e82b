/-! ONE COMMAND, on a picture of a count: all three counts do the same -/
abbrev TS : Type := Nat × Nat × (Nat → Nat) × (Nat → Nat)
abbrev CS : Type := DS × TS
section OBEY
variable {rd : Nat → Nat → Nat} {ln : Nat → Nat} {l : List Nat}
def vtS (rd : Nat → Nat → Nat) (ln : Nat → Nat) (l : List Nat) (τ : TS) : Nat → Nat → Int32 := fun t c => vtL rd ln (τ.2.2.1 t) (τ.2.2.2 t) c l
def wlS (rd : Nat → Nat → Nat) (ln : Nat → Nat) (l : List Nat) (τ : TS) : Int32 := nI (if τ.2.1 = 0 then 0 else wtL rd ln (τ.2.2.2 (τ.2.1 - 1)) l)
def isT (x : Nat) : Prop := x = 116 ∨ x = 98 ∨ x = 97
def isB (x : Nat) : Prop := x = 108 ∨ x = 104 ∨ x = 113
def isG (x : Nat) : Prop := x = 109 ∨ x = 101 ∨ x = 114 ∨ x = 120
def obS (rd : Nat → Nat → Nat) (ln : Nat → Nat) (l : List Nat) (x num : Nat) (σ : CS) : CS :=
  if x = 116 ∨ x = 98 ∨ x = 97 then (σ.1, σ.2.1, σ.2.2.1 + 1, fup σ.2.2.2.1 σ.2.2.1 x, fup σ.2.2.2.2 σ.2.2.1 σ.1.1)
  else if x = 108 ∨ x = 104 ∨ x = 113 then (σ.1, x, σ.2.2)
  else (lgS (vtS rd ln l σ.2) σ.2.2.1 σ.2.1 (wlS rd ln l σ.2) x (nI num) (if x = 101 ∨ x = 114 then 6 else 1) σ.1, σ.2)
def gdT (S : Nat) (τ : TS) : Prop := isB τ.1 ∧ τ.2.1 ≤ 156 ∧ ∀ t, t < τ.2.1 → τ.2.2.2 t < 64 ∧ sub S (τ.2.2.2 t) ∧ isT (τ.2.2.1 t)
def gdC (n0 : Nat) (σ : CS) : Prop := gdD σ.1 ∧ gdT σ.1.1 σ.2 ∧ pcN σ.1.1 ≤ n0 ∧ n0 ≤ 6
theorem lgS_num {vt : Nat → Nat → Int32} {tn B cmd : Nat} {wl num num' : Int32} (h : cmd ≠ 101) : ∀ n δ, lgS vt tn B wl cmd num n δ = lgS vt tn B wl cmd num' n δ := by
  have hm : ∀ δ, mayS vt tn wl cmd num δ = mayS vt tn wl cmd num' δ := by
    intro δ
    unfold mayS
    by_cases c : cmd = 120
    · rw [if_pos c, if_pos c]
    · rw [if_neg c, if_neg c, if_neg (fun e => h e.1), if_neg (fun e => h e.1)]
  intro n
  induction n with
  | zero => intro δ; rfl
  | succ n ih =>
    intro δ
    unfold lgS
    rw [hm δ, ih]
theorem lgS_gd {vt : Nat → Nat → Int32} {tn B cmd : Nat} {wl num : Int32} : ∀ n δ, gdD δ → gdD (lgS vt tn B wl cmd num n δ) ∧ sub (lgS vt tn B wl cmd num n δ).1 δ.1 ∧ pcN (lgS vt tn B wl cmd num n δ).1 ≤ pcN δ.1 := by
  intro n
  induction n with
  | zero => intro δ h; exact ⟨h, sub_rfl, Nat.le_refl _⟩
  | succ n ih =>
    intro δ h
    unfold lgS
    by_cases c : 0 < δ.2.2.1 ∧ mayS vt tn wl cmd num δ = true
    · rw [if_pos c]
      obtain ⟨g1, g2⟩ := elS_gd (B := B) h c.1 c.2
      obtain ⟨f1, f2, f3⟩ := ih _ g1
      have hsub : sub (elS vt tn B (decide (cmd ≠ 120)) δ).1 δ.1 := sub_rmv h.1 (choS_in h.1 (may_ne h.1 c.2)).1
      exact ⟨f1, sub_tr f2 hsub, by omega⟩
    · rw [if_neg c]; exact ⟨h, sub_rfl, Nat.le_refl _⟩
theorem gdT.sub {S S' : Nat} {τ : TS} (h : gdT S τ) (k : sub S' S) : gdT S' τ := ⟨h.1, h.2.1, fun t ht => ⟨(h.2.2 t ht).1, sub_tr k (h.2.2 t ht).2.1, (h.2.2 t ht).2.2⟩⟩
theorem ob_gd {n0 x num : Nat} {σ : CS} (h : gdC n0 σ) (ht : isT x → σ.2.2.1 < 156) : gdC n0 (obS rd ln l x num σ) ∧ sub (obS rd ln l x num σ).1.1 σ.1.1 ∧ pcN (obS rd ln l x num σ).1.1 ≤ pcN σ.1.1 ∧ (obS rd ln l x num σ).2.2.1 = σ.2.2.1 + (if x = 116 ∨ x = 98 ∨ x = 97 then 1 else 0) ∧ (isT x ∨ isB x → (obS rd ln l x num σ).1 = σ.1) := by
  obtain ⟨h1, h2, h3, h4⟩ := h
  unfold obS
  by_cases c1 : x = 116 ∨ x = 98 ∨ x = 97
  · simp only [if_pos c1]
    refine ⟨⟨h1, ⟨h2.1, ?_, fun t htt => ?_⟩, h3, h4⟩, sub_rfl, Nat.le_refl _, trivial, fun _ => trivial⟩
    · have := ht c1; show _ + 1 ≤ 156; omega
    · dsimp only at htt ⊢
      unfold fup
      by_cases g : t = σ.2.2.1
      · rw [if_pos g, if_pos g]; exact ⟨h1.1, sub_rfl, c1⟩
      · rw [if_neg g, if_neg g]; exact h2.2.2 t (by omega)
  · simp only [if_neg c1]
    by_cases c2 : x = 108 ∨ x = 104 ∨ x = 113
    · simp only [if_pos c2]
      exact ⟨⟨h1, ⟨c2, h2.2⟩, h3, h4⟩, sub_rfl, Nat.le_refl _, rfl, fun _ => trivial⟩
    · simp only [if_neg c2]
      obtain ⟨g1, g2, g3⟩ := lgS_gd (vt := vtS rd ln l σ.2) (tn := σ.2.2.1) (B := σ.2.1) (wl := wlS rd ln l σ.2) (cmd := x) (num := nI num) (if x = 101 ∨ x = 114 then 6 else 1) σ.1 h1
      exact ⟨⟨g1, h2.sub g2, by dsimp only; omega, h4⟩, g2, g3, rfl, fun e => e.elim (fun e => absurd e c1) (fun e => absurd e c2)⟩
theorem tl_t {x : Nat} (h : isT x) : ¬ sIx 1 (nI x) < (0 : Int32) := by rcases h with rfl | rfl | rfl <;> decide +kernel
theorem tl_b {x : Nat} (h : isB x) : sIx 1 (nI x) < (0 : Int32) ∧ ¬ sIx 2 (nI x) < (0 : Int32) := by rcases h with rfl | rfl | rfl <;> exact ⟨by decide +kernel, by decide +kernel⟩
theorem tl_g {x : Nat} (h : isG x) : sIx 1 (nI x) < (0 : Int32) ∧ sIx 2 (nI x) < (0 : Int32) := by rcases h with rfl | rfl | rfl | rfl <;> exact ⟨by decide +kernel, by decide +kernel⟩
theorem isT_n {x : Nat} (h : isT x) : x < 65536 := by unfold isT at h; omega
theorem isB_n {x : Nat} (h : isB x) : x < 65536 ∧ ¬ isT x := by unfold isB isT at *; omega
theorem isG_n {x : Nat} (h : isG x) : x < 65536 ∧ ¬ isT x ∧ ¬ isB x := by unfold isG isB isT at *; omega
/-- the three counts' cells -/
def MC (w : Wt) (rd : Nat → Nat → Nat) (ln : Nat → Nat) (l : List Nat) (σ : CS) : Prop := MMd 22 w σ.1 ∧ MMt w rd ln l σ.2.2.1 σ.2.2.2.1 σ.2.2.2.2 ∧ w 22 7 = nI σ.2.1
def HC (w : Wt) (σ : CS) : Prop := MMd 28 w σ.1 ∧ HHt w σ.2.2.1 σ.2.2.2.1 σ.2.2.2.2 ∧ w 28 7 = nI σ.2.1
def RC (m : Wt) (rd : Nat → Nat → Nat) (ln : Nat → Nat) (l : List Nat) (n0 : Nat) (σ : CS) : Prop := RRd m n0 σ.1 ∧ RRt m rd ln l σ.2.2.1 σ.2.2.2.1 σ.2.2.2.2 ∧ m 0 39 = nI (bcR σ.2.1)
theorem MC.vv {w : Wt} {n0 : Nat} {σ : CS} (hg : gdC n0 σ) (h : MC w rd ln l σ) : VV_M w σ.1.1 σ.2.2.1 (vtS rd ln l σ.2) := by
  intro t ht k hk hks
  have h156 := hg.2.1.2.1
  have e1 : nI t * (6 : Int32) = nI (t * 6) := pk_mul t 6
  have e2 : inb (nI (t * 6 + k)) 936 = true := nl_in (by omega) (by omega)
  have e3 : (nI (t * 6 + k)).toNatClampNeg = t * 6 + k := nl_cl (by omega)
  have e4 : (0 : Int32) ≤ nI t := by rw [qb_0 (by omega)]; omega
  unfold f_MachineCount_votesIn
  rw [if_pos e4, e1, nI_add, e2, gd_t, e3, (h.2.1.2 t ht).2.2 k hk]
  rfl
theorem MC.wl {w : Wt} {n0 : Nat} {σ : CS} (hg : gdC n0 σ) (h : MC w rd ln l σ) : f_MachineCount_weightOf (nI σ.2.2.1 - 1) w = some (wlS rd ln l σ.2) := by
  have h156 := hg.2.1.2.1
  obtain ⟨δ, B, tn, kd, sd⟩ := σ
  dsimp only at h156 ⊢
  unfold f_MachineCount_weightOf wlS
  dsimp only
  cases tn with
  | zero => rw [if_neg (by decide)]; rfl
  | succ t =>
    have e4 : (0 : Int32) ≤ nI t := by rw [qb_0 (by omega)]; omega
    have e2 : inb (nI t) 156 = true := nl_in (by omega) (by omega)
    have e3 : (nI t).toNatClampNeg = t := nl_cl (by omega)
    rw [nI_pred, if_pos e4, e2, gd_t, e3, if_neg (by omega), (h.2.1.2 t (by show t < t + 1; omega)).2.1]
    rfl
theorem HC.vv {w : Wt} {n0 : Nat} {σ : CS} (hg : gdC n0 σ) (h : HC w σ) (hG : GA w l) (hB : BXc w rd ln l) (hd : ∀ b, b ∈ l → ∀ p q, p < ln b → q < ln b → p ≠ q → rd b p ≠ rd b q) : VV_H w σ.1.1 σ.2.2.1 (vtS rd ln l σ.2) := by
  intro t ht k hk hks
  have h156 := hg.2.1.2.1
  obtain ⟨g1, g2, g3⟩ := hg.2.1.2.2 t ht
  obtain ⟨f1, f2⟩ := h.2.1.2 t ht
  exact f_votes_H g3 g1 (by omega) hk (g2 k hk hks) hG hB f1 f2 hd
theorem HC.wl {w : Wt} {n0 : Nat} {σ : CS} (hg : gdC n0 σ) (h : HC w σ) (hG : GA w l) (hB : BXc w rd ln l) : f_HandCount_weightOf (nI σ.2.2.1 - 1) w = some (wlS rd ln l σ.2) := by
  have h156 := hg.2.1.2.1
  have hgt := hg.2.1.2.2
  have hh := h.2.1.2
  obtain ⟨δ, B, tn, kd, sd⟩ := σ
  dsimp only at h156 hgt hh ⊢
  unfold wlS
  dsimp only
  cases tn with
  | zero =>
    unfold f_HandCount_weightOf
    rw [if_neg (by decide)]; rfl
  | succ t =>
    rw [nI_pred, if_neg (by omega)]
    exact f_weight_H (hgt t (by omega)).1 (by omega) hG hB (hh t (by omega)).2
theorem RC.vv {m : Wt} {n0 : Nat} {σ : CS} (hg : gdC n0 σ) (h : RC m rd ln l n0 σ) : VV_R m σ.1.1 σ.2.2.1 (vtS rd ln l σ.2) := by
  intro t ht k hk hks
  have h156 := hg.2.1.2.1
  have e1 : (6 : Int32) * nI t = nI (6 * t) := pk_mul 6 t
  have e2 : inb (nI (6 * t + k)) 2400 = true := nl_in (by omega) (by omega)
  have e3 : (nI (6 * t + k)).toNatClampNeg = 6 * t + k := nl_cl (by omega)
  have e4 : (0 : Int32) ≤ nI t := by rw [qb_0 (by omega)]; omega
  have e5 := h.2.1.2.2 t ht k hk
  rw [if_pos ((hg.2.1.2.2 t ht).2.1 k hk hks)] at e5
  unfold m_votesIn
  rw [if_pos e4, e1, nI_add, e2, gd_t, e3, e5]
  rfl
theorem ob_M {w : Wt} {n0 x num : Nat} {nm : Int32} {σ : CS} (hg : gdC n0 σ) (h : MC w rd ln l σ) (hG : GA w l) (hB : BXc w rd ln l) (ht : isT x → σ.2.2.1 < 156) (hx : isT x ∨ isB x ∨ isG x) (hnm : x = 101 → nm = nI num) : Ok (f_Count_obey_M (nI x) nm w) (fun w' => MC w' rd ln l (obS rd ln l x num σ) ∧ ∀ i, i < 22 ∨ 26 < i → w' i = w i) := by
  have hv := h.vv hg
  have hw := h.wl hg
  obtain ⟨m1, m2, m3⟩ := h
  unfold f_Count_obey_M obS
  by_cases c1 : isT x
  · rw [if_neg (tl_t c1)]
    obtain ⟨w', e, f1, f2, f3⟩ := f_tally_M c1 hg.1.1 (ht c1) m2 hG hB m1.1
    refine ⟨w', by rw [e]; rfl, ?_, fun i hi => f2 i (by omega) (by omega) (by omega) (by omega)⟩
    rw [if_pos (show (x = 116 ∨ x = 98 ∨ x = 97) from c1)]
    refine ⟨⟨?_, ?_, ?_, ?_, fun i hi => ?_⟩, f1, ?_⟩
    · rw [f3 5 (by decide)]; exact m1.1
    · rw [f3 6 (by decide)]; exact m1.2.1
    · rw [f3 4 (by decide)]; exact m1.2.2.1
    · rw [f3 2 (by decide)]; exact m1.2.2.2.1
    · rw [f2 _ (by decide) (by decide) (by decide) (by decide)]; exact m1.2.2.2.2 i hi
    · rw [f3 7 (by decide)]; exact m3
  · by_cases c2 : isB x
    · have hc : chb (nI x) = true := by
        have := (isB_n c2).1
        unfold chb
        rw [nI_toInt (by omega)]
        exact decide_eq_true ⟨by omega, by omega⟩
      rw [if_pos (tl_b c2).1, if_neg (tl_b c2).2, hc, gd_t, nmd_eq]
      refine ⟨_, rfl, ?_, fun i hi => upd2_n (by omega)⟩
      have hj : ∀ j, j ≠ 7 → upd2 w 22 7 (nI x) 22 j = w 22 j := fun j hj => by rw [upd2_at, if_pos rfl, if_neg hj]
      rw [if_neg (show ¬ (x = 116 ∨ x = 98 ∨ x = 97) from c1), if_pos (show (x = 108 ∨ x = 104 ∨ x = 113) from c2)]
      refine ⟨⟨?_, ?_, ?_, ?_, fun i hi => ?_⟩, ⟨?_, fun t htt => ⟨?_, ?_, fun c hc => ?_⟩⟩, ?_⟩
      · rw [hj 5 (by decide)]; exact m1.1
      · rw [hj 6 (by decide)]; exact m1.2.1
      · rw [hj 4 (by decide)]; exact m1.2.2.1
      · rw [hj 2 (by decide)]; exact m1.2.2.2.1
      · rw [upd2_n (by decide)]; exact m1.2.2.2.2 i hi
      · rw [hj 3 (by decide)]; exact m2.1
      · rw [upd2_n (by decide)]; exact (m2.2 t htt).1
      · rw [upd2_n (by decide)]; exact (m2.2 t htt).2.1
      · rw [upd2_n (by decide)]; exact (m2.2 t htt).2.2 c hc
      · rw [upd2_at, if_pos rfl, if_pos rfl]
    · have c3 : isG x := by rcases hx with g | g | g; exact absurd g c1; exact absurd g c2; exact g
      rw [if_pos (tl_g c3).1, if_pos (tl_g c3).2]
      have hBn : σ.2.1 < 65536 := (isB_n hg.2.1.1).1
      obtain ⟨w', e, f1, f2, f3, f4⟩ := f_letgo_M (cmd := x) (num := nm) hBn (isG_n c3).1 hg.2.1.2.1 m3 hg.1 m1 hv m2.1 hw
      refine ⟨w', by rw [e]; rfl, ?_, fun i hi => f3.1 i (by omega) (by omega)⟩
      rw [if_neg (show ¬ (x = 116 ∨ x = 98 ∨ x = 97) from c1), if_neg (show ¬ (x = 108 ∨ x = 104 ∨ x = 113) from c2)]
      have hnum : lgS (vtS rd ln l σ.2) σ.2.2.1 σ.2.1 (wlS rd ln l σ.2) x nm (if x = 101 ∨ x = 114 then 6 else 1) σ.1 = lgS (vtS rd ln l σ.2) σ.2.2.1 σ.2.1 (wlS rd ln l σ.2) x (nI num) (if x = 101 ∨ x = 114 then 6 else 1) σ.1 := by
        by_cases c : x = 101
        · rw [hnm c]
        · exact lgS_num c _ _
      rw [hnum] at f1
      refine ⟨f1, ⟨?_, fun t htt => ⟨?_, ?_, fun c hc => ?_⟩⟩, ?_⟩
      · rw [f3.2 3 (by decide) (by decide) (by decide) (by decide)]; exact m2.1
      · rw [f3.1 25 (by decide) (by decide)]; exact (m2.2 t htt).1
      · rw [f3.1 26 (by decide) (by decide)]; exact (m2.2 t htt).2.1
      · rw [f3.1 24 (by decide) (by decide)]; exact (m2.2 t htt).2.2 c hc
      · rw [f3.2 7 (by decide) (by decide) (by decide) (by decide)]; exact m3
theorem ob_H {w : Wt} {n0 x num : Nat} {nm : Int32} {σ : CS} (hg : gdC n0 σ) (h : HC w σ) (hG : GA w l) (hB : BXc w rd ln l) (hd : ∀ b, b ∈ l → ∀ p q, p < ln b → q < ln b → p ≠ q → rd b p ≠ rd b q) (ht : isT x → σ.2.2.1 < 156) (hx : isT x ∨ isB x ∨ isG x) (hnm : x = 101 → nm = nI num) : Ok (f_Count_obey_H (nI x) nm w) (fun w' => HC w' (obS rd ln l x num σ) ∧ ∀ i, i < 28 ∨ 31 < i → w' i = w i) := by
  have hv := h.vv hg hG hB hd
  have hw := h.wl hg hG hB
  obtain ⟨m1, m2, m3⟩ := h
  unfold f_Count_obey_H obS
  by_cases c1 : isT x
  · rw [if_neg (tl_t c1)]
    obtain ⟨w', e, f1, f2, f3⟩ := f_tally_H (isT_n c1) (ht c1) m2 m1.1
    refine ⟨w', by rw [e]; rfl, ?_, fun i hi => f2 i (by omega) (by omega) (by omega)⟩
    rw [if_pos (show (x = 116 ∨ x = 98 ∨ x = 97) from c1)]
    refine ⟨⟨?_, ?_, ?_, ?_, fun i hi => ?_⟩, f1, ?_⟩
    · rw [f3 5 (by decide)]; exact m1.1
    · rw [f3 6 (by decide)]; exact m1.2.1
    · rw [f3 4 (by decide)]; exact m1.2.2.1
    · rw [f3 2 (by decide)]; exact m1.2.2.2.1
    · rw [f2 _ (by decide) (by decide) (by decide)]; exact m1.2.2.2.2 i hi
    · rw [f3 7 (by decide)]; exact m3
  · by_cases c2 : isB x
    · have hc : chb (nI x) = true := by
        have := (isB_n c2).1
        unfold chb
        rw [nI_toInt (by omega)]
        exact decide_eq_true ⟨by omega, by omega⟩
      rw [if_pos (tl_b c2).1, if_neg (tl_b c2).2, hc, gd_t, nmd_eq]
      refine ⟨_, rfl, ?_, fun i hi => upd2_n (by omega)⟩
      have hj : ∀ j, j ≠ 7 → upd2 w 28 7 (nI x) 28 j = w 28 j := fun j hj => by rw [upd2_at, if_pos rfl, if_neg hj]
      rw [if_neg (show ¬ (x = 116 ∨ x = 98 ∨ x = 97) from c1), if_pos (show (x = 108 ∨ x = 104 ∨ x = 113) from c2)]
      refine ⟨⟨?_, ?_, ?_, ?_, fun i hi => ?_⟩, ⟨?_, fun t htt => ⟨?_, ?_⟩⟩, ?_⟩
      · rw [hj 5 (by decide)]; exact m1.1
      · rw [hj 6 (by decide)]; exact m1.2.1
      · rw [hj 4 (by decide)]; exact m1.2.2.1
      · rw [hj 2 (by decide)]; exact m1.2.2.2.1
      · rw [upd2_n (by decide)]; exact m1.2.2.2.2 i hi
      · rw [hj 3 (by decide)]; exact m2.1
      · rw [upd2_n (by decide)]; exact (m2.2 t htt).1
      · rw [upd2_n (by decide)]; exact (m2.2 t htt).2
      · rw [upd2_at, if_pos rfl, if_pos rfl]
    · have c3 : isG x := by rcases hx with g | g | g; exact absurd g c1; exact absurd g c2; exact g
      rw [if_pos (tl_g c3).1, if_pos (tl_g c3).2]
      have hBn : σ.2.1 < 65536 := (isB_n hg.2.1.1).1
      obtain ⟨w', e, f1, f2, f3, f4⟩ := f_letgo_H (cmd := x) (num := nm) hBn (isG_n c3).1 hg.2.1.2.1 m3 hg.1 m1 hv m2.1 hw
      refine ⟨w', by rw [e]; rfl, ?_, fun i hi => f3.1 i (by omega) (by omega)⟩
      rw [if_neg (show ¬ (x = 116 ∨ x = 98 ∨ x = 97) from c1), if_neg (show ¬ (x = 108 ∨ x = 104 ∨ x = 113) from c2)]
      have hnum : lgS (vtS rd ln l σ.2) σ.2.2.1 σ.2.1 (wlS rd ln l σ.2) x nm (if x = 101 ∨ x = 114 then 6 else 1) σ.1 = lgS (vtS rd ln l σ.2) σ.2.2.1 σ.2.1 (wlS rd ln l σ.2) x (nI num) (if x = 101 ∨ x = 114 then 6 else 1) σ.1 := by
        by_cases c : x = 101
        · rw [hnm c]
        · exact lgS_num c _ _
      rw [hnum] at f1
      refine ⟨f1, ⟨?_, fun t htt => ⟨?_, ?_⟩⟩, ?_⟩
      · rw [f3.2 3 (by decide) (by decide) (by decide) (by decide)]; exact m2.1
      · rw [f3.1 30 (by decide) (by decide)]; exact (m2.2 t htt).1
      · rw [f3.1 31 (by decide) (by decide)]; exact (m2.2 t htt).2
      · rw [f3.2 7 (by decide) (by decide) (by decide) (by decide)]; exact m3
end OBEY
/-- the reference does a command -/
def doR (x num : Nat) (m : Wt) : Option Wt := if x = 101 then m_electsAbove (nI num) m else m_does (nI x) m
def kpJ (m m' : Wt) : Prop := (∀ i, i ≠ 0 → i ≠ 25 → i ≠ 26 → m' i = m i) ∧ ∀ j, j < 32 ∨ 40 < j → m' 0 j = m 0 j
theorem ob_R {rd : Nat → Nat → Nat} {ln : Nat → Nat} {m : Wt} {p : Nat → Bool} {bn n0 x num : Nat} {σ : CS} (hO : 0 < σ.1.2.2.1) (hg : gdC n0 σ) (h : RC m rd ln (glS p bn 0) n0 σ) (hI : IN m p bn) (hB : BXm m rd ln bn) (ht : isT x → σ.2.2.1 < 156) (hx : isT x ∨ isB x ∨ isG x) : Ok (doR x num m) (fun m' => RC m' rd ln (glS p bn 0) n0 (obS rd ln (glS p bn 0) x num σ) ∧ kpJ m m') := by
  have hv := h.vv hg
  obtain ⟨m1, m2, m3⟩ := h
  unfold doR obS
  by_cases c1 : isT x
  · have hx101 : ¬ x = 101 := by unfold isT at c1; omega
    have hx114 : x ≠ 114 := by unfold isT at c1; omega
    obtain ⟨m', e, f1, f2, f3⟩ := r_tally c1 hg.1.1 (ht c1) m2 hI hB m1.1
    rw [if_neg hx101]
    refine ⟨m', ?_, ?_, fun i h1 h2 h3 => f2 i h1 h2, fun j hj => f3 j (by omega) (by omega)⟩
    · have hd : m_does (nI x) m = m_does_b18 (nI x) m := by
        unfold m_does
        rcases c1 with rfl | rfl | rfl
        · rw [if_pos (by decide)]
        · rw [if_neg (by decide), if_pos (by decide)]
        · rw [if_neg (by decide), if_neg (by decide), if_pos (by decide)]
      rw [hd]
      unfold m_does_b18
      rw [e, bnd_eq, r_exit (isT_n c1) hx114]
    · rw [if_pos (show (x = 116 ∨ x = 98 ∨ x = 97) from c1)]
      refine ⟨⟨?_, ?_, ?_, ?_, fun i hi => ?_, ?_, m1.2.2.2.2.2.2⟩, f1, ?_⟩
      · rw [f3 36 (by decide) (by decide)]; exact m1.1
      · rw [f3 37 (by decide) (by decide)]; exact m1.2.1
      · rw [f3 38 (by decide) (by decide)]; exact m1.2.2.1
      · rw [f3 35 (by decide) (by decide)]; exact m1.2.2.2.1
      · rw [f2 26 (by decide) (by decide)]; exact m1.2.2.2.2.1 i hi
      · rw [f3 40 (by decide) (by decide)]; exact m1.2.2.2.2.2.1
      · rw [f3 39 (by decide) (by decide)]; exact m3
  · by_cases c2 : isB x
    · have hx101 : ¬ x = 101 := by unfold isB at c2; omega
      have hx114 : x ≠ 114 := by unfold isB at c2; omega
      rw [if_neg hx101, if_neg (show ¬ (x = 116 ∨ x = 98 ∨ x = 97) from c1), if_pos (show (x = 108 ∨ x = 104 ∨ x = 113) from c2)]
      have hd : m_does (nI x) m = some (upd2 m 0 39 (nI (bcR x))) := by
        have hb : ∀ t0, m_does_b142 (nI x) t0 m = some (upd2 m 0 39 t0) := fun t0 => by
          unfold m_does_b142
          rw [nmd_eq, r_exit (isB_n c2).1 hx114]
        unfold m_does m_does_b51 m_does_b102 m_does_b120
        rcases c2 with rfl | rfl | rfl
        · rw [if_neg (by decide), if_neg (by decide), if_neg (by decide), if_neg (by decide), if_neg (by decide), if_pos (by decide), if_pos (by decide), hb]; rfl
        · rw [if_neg (by decide), if_neg (by decide), if_neg (by decide), if_neg (by decide), if_neg (by decide), if_neg (by decide), if_pos (by decide), if_neg (by decide), if_pos (by decide), hb]; rfl
        · rw [if_neg (by decide), if_neg (by decide), if_neg (by decide), if_neg (by decide), if_neg (by decide), if_neg (by decide), if_neg (by decide), if_pos (by decide), if_neg (by decide), if_neg (by decide), hb]; rfl
      have hj : ∀ j, j ≠ 39 → upd2 m 0 39 (nI (bcR x)) 0 j = m 0 j := fun j hj => by rw [upd2_at, if_pos rfl, if_neg hj]
      refine ⟨_, hd, ⟨⟨?_, ?_, ?_, ?_, fun i hi => ?_, ?_, m1.2.2.2.2.2.2⟩, ⟨?_, ?_, fun t htt c hc => ?_⟩, ?_⟩, fun i h1 h2 h3 => upd2_n h1, fun j hj2 => hj j (by omega)⟩
      · rw [hj 36 (by decide)]; exact m1.1
      · rw [hj 37 (by decide)]; exact m1.2.1
      · rw [hj 38 (by decide)]; exact m1.2.2.1
      · rw [hj 35 (by decide)]; exact m1.2.2.2.1
      · rw [upd2_n (by decide)]; exact m1.2.2.2.2.1 i hi
      · rw [hj 40 (by decide)]; exact m1.2.2.2.2.2.1
      · rw [hj 32 (by decide)]; exact m2.1
      · rw [hj 33 (by decide)]; exact m2.2.1
      · rw [upd2_n (by decide)]; exact m2.2.2 t htt c hc
      · rw [upd2_at, if_pos rfl, if_pos rfl]
    · have c3 : isG x := by rcases hx with g | g | g; exact absurd g c1; exact absurd g c2; exact g
      rw [if_neg (show ¬ (x = 116 ∨ x = 98 ∨ x = 97) from c1), if_neg (show ¬ (x = 108 ∨ x = 104 ∨ x = 113) from c2)]
      have hwl : m 0 33 = wlS rd ln (glS p bn 0) σ.2 := m2.2.1
      have hgo : Ok (if x = 101 then m_electsAbove (nI num) m else m_does (nI x) m) (fun m' => GoR m n0 σ.2.2.1 σ.2.1 (vtS rd ln (glS p bn 0) σ.2) (wlS rd ln (glS p bn 0) σ.2) (nI num) x (if x = 101 ∨ x = 114 then 6 else 1) σ.1 m') := by
        rcases c3 with rfl | rfl | rfl | rfl
        · rw [if_neg (by decide), if_neg (by decide)]; exact r_does_m hg.1 hO m1 hv hg.2.1.2.1 m2.1 m3 hg.2.1.1
        · rw [if_pos rfl, if_pos (by decide)]; exact r_does_e hg.1 m1 hv hg.2.1.2.1 m2.1 hwl m3 hg.2.1.1
        · rw [if_neg (by decide), if_pos (by decide)]; exact r_does_r hg.1 m1 hv hg.2.1.2.1 m2.1 m3 hg.2.1.1
        · rw [if_neg (by decide), if_neg (by decide)]; exact r_does_x hg.1 hO m1 hv hg.2.1.2.1 m2.1 m3 hg.2.1.1
      obtain ⟨m', e, f1, f2, f3, f4⟩ := hgo
      refine ⟨m', e, ⟨f1, ⟨?_, ?_, fun t htt c hc => ?_⟩, ?_⟩, fun i h1 h2 h3 => f3.1 i h1 h3, fun j hj => f3.2 j (by omega) (by omega) (by omega) (by omega) (by omega)⟩
      · rw [f3.2 32 (by decide) (by decide) (by decide) (by decide) (by decide)]; exact m2.1
      · rw [f3.2 33 (by decide) (by decide) (by decide) (by decide) (by decide)]; exact m2.2.1
      · rw [f3.1 25 (by decide) (by decide)]; exact m2.2.2 t htt c hc
      · rw [f3.2 39 (by decide) (by decide) (by decide) (by decide) (by decide)]; exact m3

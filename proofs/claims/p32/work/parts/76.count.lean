/-! p32: A VOTE'S COUNT: winners, who stands, ties, votes -/
theorem zb_apc : ∀ s, s < 64 → ∀ k, k < 6 → hs s k = false → pcN (adb s k) = pcN s + 1 := by decide +kernel
theorem zb_sle : ∀ s, s < 64 → ∀ t, t < 64 → (∀ k, k < 6 → hs t k = true → hs s k = true) → pcN t ≤ pcN s := by decide +kernel
theorem zb_slt : ∀ c, c < 7 → ∀ s, s < 64 → (∀ k, k < 6 → hs s k = true → hs (2 ^ c - 1) k = true) → s < 2 ^ c := by decide +kernel
theorem sub_ad {s k t : Nat} (hs' : s < 64) (hk : k < 6) (h : sub s t) (g : hs t k = true) : sub (adb s k) t := fun j hj e => by
  rcases (zb_hsa s hs' k hk j hj).mp e with q | q
  · exact h j hj q
  · rw [q]; exact g
/-- who is elected, who stands, the ties -/
def XD (c s : Nat) (δ : DS) : Prop := (pcN δ.2.1 + δ.2.2.1 = s ∧ sub δ.2.1 (2 ^ c - 1) ∧ sub δ.1 (2 ^ c - 1) ∧ ∀ k, k < 6 → hs δ.1 k = true → hs δ.2.1 k = false) ∧ ∀ i, i < δ.2.2.2.1 → δ.2.2.2.2 i < 64 ∧ 2 ≤ pcN (δ.2.2.2.2 i) ∧ sub (δ.2.2.2.2 i) (2 ^ c - 1)
def XT (c : Nat) (τ : TS) : Prop := (∀ t, t < τ.2.1 → τ.2.2.2 t ≠ 0 ∧ sub (τ.2.2.2 t) (2 ^ c - 1)) ∧ ∀ t u, t ≤ u → u < τ.2.1 → sub (τ.2.2.2 u) (τ.2.2.2 t)
def XC (c s : Nat) (σ : CS) : Prop := XD c s σ.1 ∧ XT c σ.2
theorem elS_X {vt : Nat → Nat → Int32} {tn B c s : Nat} {b : Bool} {δ : DS} (h : gdD δ) (hne : δ.1 ≠ 0) (hO : b = true → 0 < δ.2.2.1) (hX : XD c s δ) : XD c s (elS vt tn B b δ) := by
  obtain ⟨S, E, O, un, us⟩ := δ
  obtain ⟨h1, h2, h3, h4⟩ := h
  obtain ⟨⟨x1, x2, x3, x4⟩, x5⟩ := hX
  dsimp only at h1 h2 h3 h4 hne hO x1 x2 x3 x4 x5
  obtain ⟨c1, c2, c3⟩ := choS_in (vt := vt) (tn := tn) (B := B) (b := b) h1 hne
  have l1 : leadS vt tn b S < 64 := ldS_lt h1
  have l3 : sub (leadS vt tn b S) S := ldS_sub h1
  have hE := x4 _ c1 c3
  refine ⟨⟨?_, ?_, ?_, ?_⟩, ?_⟩
  · unfold elS; dsimp only
    cases b with
    | true => rw [if_pos rfl, if_pos rfl, zb_apc E h2 _ c1 hE]; have := hO rfl; omega
    | false => rw [if_neg (by decide), if_neg (by decide)]; exact x1
  · unfold elS; dsimp only
    cases b with
    | true => rw [if_pos rfl]; exact sub_ad h2 c1 x2 (x3 _ c1 c3)
    | false => rw [if_neg (by decide)]; exact x2
  · unfold elS; dsimp only
    exact sub_tr (sub_rmv h1 c1) x3
  · unfold elS; dsimp only
    intro k hk e
    obtain ⟨e1, e2⟩ := (zb_hsr S h1 _ c1 k hk).mp e
    have e3 := x4 k hk e1
    cases b with
    | true =>
      rw [if_pos rfl]
      cases q : hs (adb E (choS vt tn B true S)) k with
      | false => rfl
      | true =>
        rcases (zb_hsa E h2 _ c1 k hk).mp q with g | g
        · rw [e3] at g; cases g
        · exact absurd g e2
    | false => rw [if_neg (by decide)]; exact e3
  · unfold elS; dsimp only
    intro i hi
    by_cases g : 1 < pcN (leadS vt tn b S)
    · rw [if_pos g] at hi ⊢
      unfold fup
      by_cases g2 : i = un
      · rw [if_pos g2]; exact ⟨l1, g, sub_tr l3 x3⟩
      · rw [if_neg g2]; exact x5 i (by omega)
    · rw [if_neg g] at hi ⊢
      exact x5 i hi
theorem lgS_X {vt : Nat → Nat → Int32} {tn B cmd c s : Nat} {wl num : Int32} : ∀ n δ, gdD δ → XD c s δ → XD c s (lgS vt tn B wl cmd num n δ) := by
  intro n
  induction n with
  | zero => intro δ _ h; exact h
  | succ n ih =>
    intro δ h hX
    unfold lgS
    by_cases g : 0 < δ.2.2.1 ∧ mayS vt tn wl cmd num δ = true
    · rw [if_pos g]
      exact ih _ (elS_gd (B := B) h g.1 g.2).1 (elS_X h (may_ne h.1 g.2) (fun _ => g.1) hX)
    · rw [if_neg g]; exact hX
section XRUN
variable {rd : Nat → Nat → Nat} {ln : Nat → Nat} {l : List Nat} {T : Nat → Nat} {len n0 c s : Nat}
theorem ob_X {x num : Nat} {σ : CS} (h : gdC n0 σ) (hO : 0 < σ.1.2.2.1) (hX : XC c s σ) : XC c s (obS rd ln l x num σ) := by
  obtain ⟨h1, h2, h3, h4⟩ := h
  obtain ⟨x1, x2, x3⟩ := hX
  unfold obS
  by_cases c1 : x = 116 ∨ x = 98 ∨ x = 97
  · rw [if_pos c1]
    have hne : σ.1.1 ≠ 0 := fun e => by
      have := (zb_pc0 σ.1.1 h1.1).mpr e
      have := h1.2.2.1
      omega
    refine ⟨x1, ⟨fun t ht => ?_, fun t u htu hu => ?_⟩⟩
    · dsimp only at ht ⊢
      unfold fup
      by_cases g : t = σ.2.2.1
      · rw [if_pos g]; exact ⟨hne, x1.1.2.2.1⟩
      · rw [if_neg g]; exact x2 t (by omega)
    · dsimp only at hu ⊢
      unfold fup
      by_cases g : u = σ.2.2.1
      · rw [if_pos g]
        by_cases g2 : t = σ.2.2.1
        · rw [if_pos g2]; exact sub_rfl
        · rw [if_neg g2]; exact (h2.2.2 t (by omega)).2.1
      · rw [if_neg g, if_neg (show ¬ t = σ.2.2.1 by omega)]; exact x3 t u htu (by omega)
  · rw [if_neg c1]
    by_cases c2 : x = 108 ∨ x = 104 ∨ x = 113
    · rw [if_pos c2]; exact ⟨x1, x2, x3⟩
    · rw [if_neg c2]; exact ⟨lgS_X _ _ h1 x1, x2, x3⟩
theorem st_X {k : Cf} (h : gdC n0 k.2.2) (hgo : going len k) (hX : XC c s k.2.2) : XC c s (stS rd ln l T k).2.2 := by
  unfold stS
  by_cases c1 : T k.1 = 40
  · rw [if_pos c1]; exact hX
  · rw [if_neg c1]
    by_cases c2 : T k.1 = 41
    · rw [if_pos c2]
      obtain ⟨p, ss, σ⟩ := k
      cases ss with
      | nil => exact hX
      | cons s0 sr =>
        dsimp only
        by_cases c3 : s0 = σ.1.1
        · rw [if_pos c3]; exact hX
        · rw [if_neg c3]; exact hX
    · rw [if_neg c2]; exact ob_X h hgo.2 hX
theorem run_X (hWF : WF T len) : ∀ n k, gcf T len n0 k → XC c s k.2.2 → XC c s (run rd ln l T len n k).2.2 := by
  intro n
  induction n with
  | zero => intro k _ h; exact h
  | succ n ih =>
    intro k hg hX
    by_cases hgo : going len k
    · rw [run_go hgo]
      exact ih _ (st_gd (rd := rd) (ln := ln) (l := l) hWF hg hgo) (st_X hg.2.1 hgo hX)
    · rw [run_end hgo]; exact hX
end XRUN
theorem cfg_X {c s : Nat} (h2 : c ≤ 6) : XC c s (cfg0 c s).2.2 := by
  refine ⟨⟨⟨?_, fun k hk h => ?_, sub_rfl, fun k hk _ => zb_hs0 k hk⟩, fun i hi => absurd hi (Nat.not_lt_zero i)⟩, fun t ht => absurd ht (Nat.not_lt_zero t), fun t u _ hu => absurd hu (Nat.not_lt_zero u)⟩
  · show pcN 0 + s = s; rw [show pcN 0 = 0 from rfl, Nat.zero_add]
  · have : hs 0 k = true := h
    rw [zb_hs0 k hk] at this; cases this
/-! a ballot gives no less than nothing -/
theorem giv_ge {kd S c : Nat} {rd : Nat → Nat} (hS : S < 64) (hkd : isT kd) : ∀ d p a A, A < 64 → sub A S → pcN A = a → (∀ q, p ≤ q → q < p + d → rd q < 6 ∧ hs A (rd q) = false) → (∀ q r, p ≤ q → q < p + d → p ≤ r → r < p + d → q ≠ r → rd q ≠ rd r) → ∃ x, x ≤ 6 ∧ giv kd (pcN S) S c rd d p a = nI x := by
  intro d
  induction d with
  | zero => intro p a A _ _ _ _ _; exact ⟨0, by omega, rfl⟩
  | succ d ih =>
    intro p a A hA hsub hpc hq hd
    unfold giv
    obtain ⟨r1, r2⟩ := hq p (Nat.le_refl _) (by omega)
    by_cases g : hs S (rd p) = true
    · rw [if_pos g]
      have hA' : adb A (rd p) < 64 := zb_alt A hA _ r1
      have hsub' : sub (adb A (rd p)) S := sub_ad hA r1 hsub g
      have hpc' : pcN (adb A (rd p)) = a + 1 := by rw [zb_apc A hA _ r1 r2, hpc]
      have hle : a + 1 ≤ pcN S := by rw [← hpc']; exact zb_sle S hS _ hA' hsub'
      have h6 := zb_pc6 S hS
      by_cases g2 : rd p = c
      · rw [if_pos g2, giv_0 d (p + 1) (a + 1) (fun q h1 h2 e => hd q p (by omega) (by omega) (Nat.le_refl _) (by omega) (by omega) (by rw [e, g2])), Int32.add_zero]
        unfold val
        rcases hkd with e | e | e
        · subst e
          rw [if_neg (by decide), if_neg (by decide)]
          by_cases z : a = 0
          · rw [if_pos z]; exact ⟨1, by omega, rfl⟩
          · rw [if_neg z]; exact ⟨0, by omega, rfl⟩
        · subst e
          rw [if_pos rfl, pk_sub (by omega)]
          exact ⟨pcN S - a, by omega, rfl⟩
        · subst e
          rw [if_neg (by decide), if_pos rfl]
          exact ⟨1, by omega, rfl⟩
      · rw [if_neg g2, Int32.zero_add]
        exact ih (p + 1) (a + 1) (adb A (rd p)) hA' hsub' hpc' (fun q h1 h2 => by
          obtain ⟨s1, s2⟩ := hq q (by omega) (by omega)
          refine ⟨s1, ?_⟩
          cases e : hs (adb A (rd p)) (rd q) with
          | false => rfl
          | true =>
            rcases (zb_hsa A hA _ r1 _ s1).mp e with z | z
            · rw [s2] at z; cases z
            · exact absurd z (hd q p (by omega) (by omega) (Nat.le_refl _) (by omega) (by omega))) (fun q r h1 h2 h3 h4 h5 => hd q r (by omega) (by omega) (by omega) (by omega) h5)
    · rw [if_neg g]
      exact ih (p + 1) a A hA hsub hpc (fun q h1 h2 => hq q (by omega) (by omega)) (fun q r h1 h2 h3 h4 h5 => hd q r (by omega) (by omega) (by omega) (by omega) h5)
theorem vtL_ge {rd : Nat → Nat → Nat} {ln : Nat → Nat} {kd S c : Nat} (hS : S < 64) (hkd : isT kd) : ∀ l : List Nat, (∀ b, b ∈ l → (∀ p, p < ln b → rd b p < 6) ∧ ∀ p q, p < ln b → q < ln b → p ≠ q → rd b p ≠ rd b q) → ∃ x, x ≤ 6 * l.length ∧ vtL rd ln kd S c l = nI x := by
  intro l
  induction l with
  | nil => intro _; exact ⟨0, by simp, rfl⟩
  | cons b r ih =>
    intro h
    obtain ⟨x, hx, ex⟩ := ih (fun b' hb' => h b' (List.mem_cons_of_mem _ hb'))
    obtain ⟨h1, h2⟩ := h b List.mem_cons_self
    obtain ⟨y, hy, ey⟩ := giv_ge (c := c) hS hkd (ln b) 0 0 0 (by omega) (fun k hk e => by rw [zb_hs0 k hk] at e; cases e) rfl (fun q _ hq => ⟨h1 q (by omega), zb_hs0 _ (h1 q (by omega))⟩) (fun q r _ hq _ hr hne => h2 q r (by omega) (by omega) hne)
    refine ⟨y + x, by rw [List.length_cons]; omega, ?_⟩
    rw [vtL_c, ex, ey, nI_add]

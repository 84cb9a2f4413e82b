/-! p32: WHAT THE CALLS ANSWER, told over the state that class and reference share -/
theorem nI_i {a b : Nat} (ha : a < 2147483648) (hb : b < 2147483648) (h : nI a = nI b) : a = b := (Iff.of_eq (nl_eq ha hb)).mp h
/-- rows (all but S) and single cells (all but Z) that a call leaves as they are -/
def Fr (S Z : List Nat) (m m' : Wt) : Prop := (∀ i, i ≠ 0 → i < 24 → i ∉ S → m' i = m i) ∧ ∀ j, j < 32 → j ∉ Z → m' 0 j = m 0 j
theorem Fr.rf {m : Wt} : Fr [] [] m m := ⟨fun _ _ _ _ => rfl, fun _ _ _ => rfl⟩
theorem Fr.tr {S S' Z Z' : List Nat} {a b c : Wt} (h : Fr S Z a b) (g : Fr S' Z' b c) : Fr (S ++ S') (Z ++ Z') a c :=
  ⟨fun i h0 h1 h2 => (g.1 i h0 h1 (fun e => h2 (List.mem_append_right _ e))).trans (h.1 i h0 h1 (fun e => h2 (List.mem_append_left _ e))), fun j h1 h2 => (g.2 j h1 (fun e => h2 (List.mem_append_right _ e))).trans (h.2 j h1 (fun e => h2 (List.mem_append_left _ e)))⟩
theorem Fr.up {S S' Z Z' : List Nat} {a b : Wt} (h : Fr S Z a b) (hS : ∀ i ∈ S, i ∈ S') (hZ : ∀ i ∈ Z, i ∈ Z') : Fr S' Z' a b :=
  ⟨fun i h0 h1 h2 => h.1 i h0 h1 (fun e => h2 (hS i e)), fun j h1 h2 => h.2 j h1 (fun e => h2 (hZ j e))⟩
theorem Fr.t2 {S Z : List Nat} {a b c : Wt} (h : Fr S Z a b) (g : Fr S Z b c) : Fr S Z a c := (h.tr g).up (fun i e => by simpa using e) (fun i e => by simpa using e)
theorem kpW.fr {m m' : Wt} (h : kpW m m') : Fr [] [] m m' := ⟨fun i h0 h1 _ => h.fn h0 h1, fun j h1 _ => h.z h1⟩
theorem Fr.kp {m m' : Wt} (h : Fr [] [] m m') : kpW m m' := fun i k e => by
  unfold scM at e
  simp only [Bool.or_eq_false_iff, decide_eq_false_iff_not, Bool.and_eq_false_iff] at e
  by_cases h0 : i = 0
  · subst h0
    exact h.2 k (by rcases e.2 with g | g <;> omega) List.not_mem_nil
  · rw [h.1 i h0 (by omega) List.not_mem_nil]
/-- how many entries, ballots, rules, votes -/
def Cn (m : Wt) (nE bn rn vn : Nat) : Prop := (m 0 6 = nI nE ∧ m 0 27 = nI bn ∧ m 0 11 = nI rn ∧ m 0 20 = nI vn) ∧ nE ≤ 60 ∧ bn ≤ 100 ∧ rn ≤ 8 ∧ vn ≤ 8
theorem Cn.fr {S Z : List Nat} {m m' : Wt} {nE bn rn vn : Nat} (c : Cn m nE bn rn vn) (f : Fr S Z m m') (h : 6 ∉ Z ∧ 27 ∉ Z ∧ 11 ∉ Z ∧ 20 ∉ Z) : Cn m' nE bn rn vn := by
  obtain ⟨⟨a, b, d, e⟩, r⟩ := c
  exact ⟨⟨by rw [f.2 6 (by omega) h.1]; exact a, by rw [f.2 27 (by omega) h.2.1]; exact b, by rw [f.2 11 (by omega) h.2.2.1]; exact d, by rw [f.2 20 (by omega) h.2.2.2]; exact e⟩, r⟩
theorem Inv.at {t : Nat} {w m : Wt} {nE bn rn vn : Nat} (h : Inv t w m) (c : Cn m nE bn rn vn) : InA w m ∧ InC w m ∧ InG w m ∧ Core w m nE bn ∧ (∀ k, nE ≤ k → m 5 k = 0) ∧ InD w m rn ∧ InE w m t rn vn ∧ InF w m vn bn := by
  obtain ⟨a, b, g, nE', bn', rn', vn', hK, h5, hD, hE, hF⟩ := h
  obtain ⟨⟨c1, c2, c3, c4⟩, b1, b2, b3, b4⟩ := c
  have q1 : nE' = nE := nI_i (by have := hK.1.1; omega) (by omega) (hK.1.2.2.symm.trans c1)
  have q2 : bn' = bn := nI_i (by have := hK.2.1.1; omega) (by omega) (hK.2.1.2.2.symm.trans c2)
  have q3 : rn' = rn := nI_i (by have := hD.1; omega) (by omega) (hD.2.2.1.symm.trans c3)
  have q4 : vn' = vn := nI_i (by have := hE.1.1; omega) (by omega) (hE.1.2.2.symm.trans c4)
  subst q1; subst q2; subst q3; subst q4
  exact ⟨a, b, g, hK, h5, hD, hE, hF⟩
theorem agr_r {L : List Nat} {res : Nat ⊕ Int32} {z th : Int32} (hL : ∀ j ∈ L, nI (cdN L j 1) ≠ 0) (h : Agr L res z th) (h0 : th = 0) : res = .inr z := by
  cases res with
  | inl k => exact absurd (h.2.1.symm.trans h0) (hL k (h.1 k rfl))
  | inr v => rw [h.2.2 v rfl]
theorem agr_x {L : List Nat} {res : Nat ⊕ Int32} {z th : Int32} (k : Nat) (hL : ∀ j ∈ L, nI (cdN L j 1) = nI (cdN L k 1) → j = k) (h9 : nI (cdN L k 1) ≠ 0) (h : Agr L res z th) (h0 : th = nI (cdN L k 1)) : res = .inl k := by
  cases res with
  | inl j => rw [hL j (h.1 j rfl) (h.2.1.symm.trans h0)]
  | inr v => exact absurd (h0.symm.trans h.2.1) h9
/-! a helper's answer -/
theorem lx2 {xl : List Nat} {f : Option ((Nat ⊕ Int32) × Wt)} {v : Int32} {w' : Wt} (h : f = some (.inr v, w')) : Option.bind f (fun x => gd (okX xl x.1) (some (cdW x.1, x.2))) = some (v, w') := by rw [h]; rfl
theorem lx2x {xl : List Nat} {f : Option ((Nat ⊕ Int32) × Wt)} {k : Nat} {w' : Wt} (hk : decide (k ∈ xl) = true) (h : f = some (.inl k, w')) : Option.bind f (fun x => gd (okX xl x.1) (some (cdW x.1, x.2))) = some (cdk k, w') := by
  rw [h, bnd_eq]
  show gd (decide (k ∈ xl)) _ = _
  rw [hk]; rfl
theorem lx1 {xl : List Nat} {f : Option (Nat ⊕ Int32)} {v : Int32} (h : f = some (.inr v)) : Option.bind f (fun x => gd (okX xl x) (some (cdW x))) = some v := by rw [h]; rfl
theorem lx1x {xl : List Nat} {f : Option (Nat ⊕ Int32)} {k : Nat} (hk : decide (k ∈ xl) = true) (h : f = some (.inl k)) : Option.bind f (fun x => gd (okX xl x) (some (cdW x))) = some (cdk k) := by
  rw [h, bnd_eq]
  show gd (decide (k ∈ xl)) _ = _
  rw [hk]; rfl
theorem wth_n {a l h : Nat} (ha : a < 2147483648) (hl : l < 2147483648) (hh : h < 2147483648) (h1 : l ≤ a) (h2 : a ≤ h) : wthn (nI a) (nI l) (nI h) = true := by
  unfold wthn
  rw [decide_eq_true (show ¬ nI a < nI l by rw [nl_lt ha hl]; omega), decide_eq_true (show ¬ nI h < nI a by rw [nl_lt hh ha]; omega)]; rfl
theorem blw_t {a n : Nat} (h : a < n) (hn : n < 2147483648) : blw (nI a) (nI n) = true := by rw [blw_nI (by omega) hn, decide_eq_true h]
theorem blw_f {a n : Nat} (h : n ≤ a) (ha : a < 2147483648) : blw (nI a) (nI n) = false := by rw [blw_nI ha (by omega), decide_eq_false (by omega)]
theorem go3 {m : Wt} : m_goes (1 : Int32) (1 : Int32) (1 : Int32) m = some (tI true, upd2 m 0 45 0) := goes_1 true m
theorem fr0 {m : Wt} {v : Int32} : Fr [] [] m (upd2 m 0 45 v) := (thr_k (m := m) (v := v)).fr
section ONE
variable {t : Nat} {w m : Wt} {nE bn rn vn : Nat}
/-! enter -/
theorem e_enter (c : Cn m nE bn rn vn) (hn : nE < 60) {r p f g : Nat} (hr : r < 3) (hp : p < 20) (hfg : f ≤ g) (hg : g ≤ 1000) : ∃ m', m_enter (nI r) (nI p) (nI f) (nI g) m = some (nI nE, m') ∧ m' 0 45 = 0 ∧ Fr [1, 2, 3, 4, 5] [6] m m' ∧ m' 0 6 = nI (nE + 1) ∧ (m' 1 nE = nI r ∧ m' 2 nE = nI p ∧ m' 3 nE = nI f ∧ m' 4 nE = nI g ∧ m' 5 nE = 0) := by
  have k3 := c.1.1
  have e1 : ¬ (60 : Int32) ≤ nI nE := by rw [qb_60 (by omega)]; omega
  have e2 : inb (nI nE) 60 = true := nl_in (by omega) (by omega)
  have e3 : (nI nE).toNatClampNeg = nE := nl_cl (by omega)
  have t1 : ¬ tI true = (0 : Int32) := by decide
  have w1 : wthn (nI f) 0 1000 = true := wth_n (l := 0) (h := 1000) (by omega) (by omega) (by omega) (by omega) (by omega)
  have w2 : wthn (nI g) (nI f) 1000 = true := wth_n (h := 1000) (by omega) (by omega) (by omega) (by omega) (by omega)
  have b1 : blw (nI r) 3 = true := blw_t (n := 3) hr (by omega)
  have b2 : blw (nI p) 20 = true := blw_t (n := 20) hp (by omega)
  refine ⟨upd2 (upd2 (upd2 (upd2 (upd2 (upd2 (upd2 m 0 45 0) 1 nE (nI r)) 2 nE (nI p)) 3 nE (nI f)) 4 nE (nI g)) 5 nE 0) 0 6 (nI (nE + 1)), ?_, ?_, ⟨fun i h0 _ h2 => ?_, fun j h1 h2 => ?_⟩, ?_, ?_, ?_, ?_, ?_, ?_⟩
  · unfold m_enter m_enter_b28 m_enter_b53 m_enter_b69
    rw [m_within, bnd_eq, w1, if_neg t1, m_within, bnd_eq, w2, if_neg t1, m_below, bnd_eq, b1, if_neg t1, m_below, bnd_eq, b2, if_neg t1, k3, if_neg e1, go3, bnd_eq, if_neg t1]
    simp only [thr_z (show (6 : Nat) ≠ 45 by decide), k3, e2, e3, gd_t, nmd_eq, upd2_at, show ¬ (0 : Nat) = 1 from by decide, show ¬ (0 : Nat) = 2 from by decide, show ¬ (0 : Nat) = 3 from by decide, show ¬ (0 : Nat) = 4 from by decide, show ¬ (0 : Nat) = 5 from by decide, show ¬ (6 : Nat) = 45 from by decide, nar_b0, nI_1, nI_pred, ↓reduceIte]
  · simp [upd2_at]
  · simp only [List.mem_cons, not_or, List.not_mem_nil, not_false_eq_true, and_true] at h2
    funext k
    simp [upd2_at, h0, h2]
  · simp only [List.mem_cons, List.not_mem_nil, or_false] at h2
    simp [upd2_at, h2, show ¬ j = 45 by omega]
  all_goals simp [upd2_at]
theorem s_enter (h : Inv t w m) (c : Cn m nE bn rn vn) (hn : nE < 60) {r p f g : Nat} (hr : r < 3) (hp : p < 20) (hfg : f ≤ g) (hg : g ≤ 1000) : ∃ w' m', l_enter (nI r) (nI p) (nI f) (nI g) w = some (nI nE, w') ∧ Inv (t + 1) w' m' ∧ Fr [1, 2, 3, 4, 5] [6] m m' ∧ m' 0 6 = nI (nE + 1) ∧ (m' 1 nE = nI r ∧ m' 2 nE = nI p ∧ m' 3 nE = nI f ∧ m' 4 nE = nI g ∧ m' 5 nE = 0) := by
  obtain ⟨m9, e3, f1, f2⟩ := e_enter c hn hr hp hfg hg
  obtain ⟨res, w', z, m', e1, e2, hI, hag⟩ := q_enter h (nI r) (nI p) (nI f) (nI g)
  obtain ⟨rfl, rfl⟩ := Prod.mk.inj (Option.some.inj (e2.symm.trans e3))
  rw [agr_r (by decide) hag f1] at e1
  exact ⟨w', m', lx2 e1, hI, f2⟩
/-! isAllowed -/
theorem s_allowed (h : Inv t w m) (c : Cn m nE bn rn vn) {r p d : Nat} (hr : r < 3) (hp : p < 20) (hd : d ≤ 1000) : l_allowed (nI r) (nI p) (nI d) w = some (tI (anyB (enM m (nI r) (nI p) (nI d)) nE)) := by
  obtain ⟨hA, hC, hG, hK, -⟩ := h.at c
  have t1 : ¬ tI true = (0 : Int32) := by decide
  have w1 : wthn (nI d) 0 1000 = true := wth_n (l := 0) (h := 1000) (by omega) (by omega) (by omega) (by omega) (by omega)
  have b1 : wthn (nI r) 0 2 = true := wth_n (l := 0) (h := 2) (by omega) (by omega) (by omega) (by omega) (by omega)
  have b2 : wthn (nI p) 0 19 = true := wth_n (l := 0) (h := 19) (by omega) (by omega) (by omega) (by omega) (by omega)
  unfold l_allowed f_Ballotscript_isAllowed
  rw [f_within, bnd_eq, b1, if_neg t1, f_within, bnd_eq, b2, if_neg t1, f_within, bnd_eq, w1, if_neg t1, f_allows hK.1.1 hK.1.2.1, bnd_eq, tI_bob, gd_t, hK.en, bnd_eq]
  cases anyB (enM m (nI r) (nI p) (nI d)) nE <;> rfl
/-! pass -/
theorem s_pass (h : Inv t w m) {td d : Nat} (h0 : m 0 0 = nI td) (h1 : 1 ≤ d) (h2 : d ≤ 100) (h3 : td + d ≤ 1000) : ∃ w' m', l_pass (nI d) w = some (nI (td + d), w') ∧ Inv (t + 1) w' m' ∧ Fr [] [0] m m' ∧ m' 0 0 = nI (td + d) := by
  obtain ⟨res, w', z, m', e1, e2, hI, hg⟩ := q_pass h (nI d)
  have t1 : ¬ tI true = (0 : Int32) := by decide
  have w1 : wthn (nI d) 1 100 = true := wth_n (l := 1) (h := 100) (by omega) (by omega) (by omega) (by omega) (by omega)
  have e3 : m_pass (nI d) m = some (nI (td + d), upd2 (upd2 m 0 45 0) 0 0 (nI (td + d))) := by
    unfold m_pass m_pass_b31
    rw [m_within, bnd_eq, w1, if_neg t1, h0, nI_add, if_neg (by rw [qd_1000 (by omega)]; omega), show m_goes (tI true) (1 : Int32) (1 : Int32) m = some (tI true, upd2 m 0 45 0) from goes_1 true m, bnd_eq, if_neg t1]
    simp only [nmd_eq, thr_z (show (0 : Nat) ≠ 45 by decide), h0, nI_add, upd2_at, ↓reduceIte]
  obtain ⟨rfl, rfl⟩ := Prod.mk.inj (Option.some.inj (e2.symm.trans e3))
  rw [agr_r (by decide) hg (by simp [upd2_at])] at e1
  refine ⟨w', _, lx2 e1, hI, ⟨fun i h0 _ h2 => ?_, fun j h1 h2 => ?_⟩, by simp [upd2_at]⟩
  · funext k; simp [upd2_at, h0]
  · simp only [List.mem_cons, List.not_mem_nil, or_false] at h2
    simp [upd2_at, h2, show ¬ j = 45 by omega]
/-! open -/
theorem e_open (c : Cn m nE bn rn vn) (hv : vn < 8) {a n s r : Nat} (ha : a < 3) (hn : 2 ≤ n ∧ n ≤ 6 ∧ 1 ≤ s ∧ s < n) (hr : r < rn) : ∃ m', m_open (nI a) (nI n) (nI s) (nI r) m = some (nI vn, m') ∧ m' 0 45 = 0 ∧ Fr [9, 10, 11, 12, 14] [20] m m' ∧ m' 0 20 = nI (vn + 1) ∧ (∀ k, m' 9 k = if k = vn then nI a else m 9 k) ∧ (∀ k, m' 10 k = if k = vn then nI n else m 10 k) ∧ (∀ k, m' 11 k = if k = vn then nI s else m 11 k) ∧ (∀ k, m' 12 k = if k = vn then nI r else m 12 k) ∧ ∀ k, m' 14 k = if k = vn then -1 else m 14 k := by
  have hc := c
  obtain ⟨⟨c1, c2, c3, c4⟩, b1, b2, b3, b4⟩ := hc
  obtain ⟨n1, n2, n3, n4⟩ := hn
  have e1 : ¬ (8 : Int32) ≤ nI vn := by rw [qb_8 (by omega)]; omega
  have e2 : inb (nI vn) 8 = true := nl_in (by omega) (by omega)
  have e3 : (nI vn).toNatClampNeg = vn := nl_cl (by omega)
  have t1 : ¬ tI true = (0 : Int32) := by decide
  have w1 : wthn (nI n) 2 6 = true := wth_n (l := 2) (h := 6) (by omega) (by omega) (by omega) (by omega) (by omega)
  have p1 : ¬ nI s < 1 := by rw [qc_1 (by omega)]; omega
  have p2 : ¬ nI n ≤ nI s := by rw [nl_le (by omega) (by omega)]; omega
  have q1 : blw (nI a) 3 = true := blw_t (n := 3) ha (by omega)
  have q2 : blw (nI r) (nI rn) = true := blw_t hr (by omega)
  refine ⟨upd2 (upd2 (upd2 (upd2 (upd2 (upd2 (upd2 m 0 45 0) 9 vn (nI a)) 10 vn (nI n)) 11 vn (nI s)) 12 vn (nI r)) 14 vn (-1)) 0 20 (nI (vn + 1)), ?_, ?_, ⟨fun i h0 _ h2 => ?_, fun j h1 h2 => ?_⟩, ?_, ?_, ?_, ?_, ?_, ?_⟩
  · unfold m_open m_open_b25 m_open_b53 m_open_b69
    rw [m_within, bnd_eq, w1, if_neg t1, if_neg p1, if_neg p2, m_below, bnd_eq, q1, if_neg t1, c3, m_below, bnd_eq, q2, if_neg t1, c4, if_neg e1, go3, bnd_eq, if_neg t1]
    simp only [thr_z (show (20 : Nat) ≠ 45 by decide), c4, e2, e3, gd_t, nmd_eq, upd2_at, show ¬ (0 : Nat) = 9 from by decide, show ¬ (0 : Nat) = 10 from by decide, show ¬ (0 : Nat) = 11 from by decide, show ¬ (0 : Nat) = 12 from by decide, show ¬ (0 : Nat) = 14 from by decide, show ¬ (20 : Nat) = 45 from by decide, nI_1, nI_pred, ↓reduceIte]
  · simp [upd2_at]
  · simp only [List.mem_cons, not_or, List.not_mem_nil, not_false_eq_true, and_true] at h2
    funext k
    simp [upd2_at, h0, h2]
  · simp only [List.mem_cons, List.not_mem_nil, or_false] at h2
    simp [upd2_at, h2, show ¬ j = 45 by omega]
  all_goals simp [upd2_at]
theorem s_open (h : Inv t w m) (c : Cn m nE bn rn vn) (hv : vn < 8) {a n s r : Nat} (ha : a < 3) (hn : 2 ≤ n ∧ n ≤ 6 ∧ 1 ≤ s ∧ s < n) (hr : r < rn) : ∃ w' m', l_open (nI a) (nI n) (nI s) (nI r) w = some (nI vn, w') ∧ Inv (t + 1) w' m' ∧ Fr [9, 10, 11, 12, 14] [20] m m' ∧ m' 0 20 = nI (vn + 1) ∧ (∀ k, m' 9 k = if k = vn then nI a else m 9 k) ∧ (∀ k, m' 10 k = if k = vn then nI n else m 10 k) ∧ (∀ k, m' 11 k = if k = vn then nI s else m 11 k) ∧ (∀ k, m' 12 k = if k = vn then nI r else m 12 k) ∧ ∀ k, m' 14 k = if k = vn then -1 else m 14 k := by
  obtain ⟨res, w', z, m', e1, e2, hI, hg⟩ := q_open h (nI a) (nI n) (nI s) (nI r)
  obtain ⟨m9, e3, f1, f2⟩ := e_open c hv ha hn hr
  obtain ⟨rfl, rfl⟩ := Prod.mk.inj (Option.some.inj (e2.symm.trans e3))
  rw [agr_r (by decide) hg f1] at e1
  exact ⟨w', m', lx2 e1, hI, f2⟩
/-! mark -/
theorem s_mark (h : Inv t w m) {k c : Nat} (h29 : m 0 29 = nI k) (hk : k < 6) (hc : c < 6) (hnew : ∀ p, p < k → m 23 p ≠ nI c) : ∃ w' m', l_mark (nI c) w = some (nI (k + 1), w') ∧ Inv (t + 1) w' m' ∧ Fr [23] [29] m m' ∧ m' 0 29 = nI (k + 1) ∧ ∀ p, m' 23 p = if p = k then nI c else m 23 p := by
  obtain ⟨res, w', z, m', e1, e2, hI, hg⟩ := q_mark h (nI c)
  have t1 : ¬ tI true = (0 : Int32) := by decide
  have y2 : inb (nI k) 6 = true := nl_in (by omega) (by omega)
  have y3 : (nI k).toNatClampNeg = k := nl_cl (by omega)
  have b1 : blw (nI c) 6 = true := blw_t (n := 6) hc (by omega)
  have hany : anyB (mkB m (nI c)) k = false := anyB_0 (fun p hp => decide_eq_false (hnew p hp))
  have e3 : m_mark (nI c) m = some (nI (k + 1), upd2 (upd2 (upd2 m 0 45 0) 23 k (nI c)) 0 29 (nI (k + 1))) := by
    unfold m_mark
    rw [m_marked (by omega) h29, bnd_eq]
    show m_mark_b38 (nI c) _ m = _
    unfold m_mark_b38 m_mark_b54
    rw [m_below, bnd_eq, hany, if_pos (show tI false = 0 from rfl), b1, show m_goes (tI true) (1 : Int32) (1 : Int32) m = some (tI true, upd2 m 0 45 0) from goes_1 true m, bnd_eq, if_neg t1]
    simp only [thr_z (show (29 : Nat) ≠ 45 by decide), h29, y2, y3, gd_t, nmd_eq, upd2_at, show ¬ (0 : Nat) = 23 from by decide, show ¬ (29 : Nat) = 45 from by decide, nI_1, ↓reduceIte]
  obtain ⟨rfl, rfl⟩ := Prod.mk.inj (Option.some.inj (e2.symm.trans e3))
  rw [agr_r (by decide) hg (by simp [upd2_at])] at e1
  refine ⟨w', _, lx2 e1, hI, ⟨fun i h0 _ h2 => ?_, fun j h1 h2 => ?_⟩, by simp [upd2_at], fun p => by simp [upd2_at]⟩
  · simp only [List.mem_cons, List.not_mem_nil, or_false] at h2
    funext k; simp [upd2_at, h0, h2]
  · simp only [List.mem_cons, List.not_mem_nil, or_false] at h2
    simp [upd2_at, h2, show ¬ j = 45 by omega]
end ONE

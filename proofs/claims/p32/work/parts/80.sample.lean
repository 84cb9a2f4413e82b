/-! p32: the recount desk: samples and recounts, twice -/
theorem cnt_0 {p : Nat → Bool} : ∀ n, (∀ k, k < n → p k = false) → cntS p n = 0 := by
  intro n
  induction n with
  | zero => intro _; rfl
  | succ n ih =>
    intro h
    show cntS p n + (if p n = true then 1 else 0) = 0
    rw [ih (fun k hk => h k (by omega)), h n (by omega), if_neg (by decide)]
section RDESK
variable {t : Nat} {w m : Wt} {nE bn rn vn v : Nat}
set_option maxHeartbeats 2000000 in
theorem e_recount (h : Inv t w m) (c : Cn m nE bn rn vn) (hv : v < vn) : m_recount (nI v) m = some (nI (cntS (rcB m (nI v)) bn), fun i => if i = 22 then rcU m (nI v) bn else upd2 m 0 45 0 i) := by
  obtain ⟨hA, hC, hG, hK, h5, hD, hE, hF⟩ := h.at c
  obtain ⟨⟨c1, c2, c3, c4⟩, z1, z2, z3, z4⟩ := id c
  have b1 := z2
  have b3 := c2
  generalize hm0 : upd2 m 0 45 0 = m0
  have m0n : ∀ i, i ≠ 0 → m0 i = m i := fun i hi => by rw [← hm0, thr_n hi]
  have m0z : ∀ j, j ≠ 45 → m0 0 j = m 0 j := fun j hj => by rw [← hm0, thr_z hj]
  have key2 : lp (m_recount_L23 (nI v)) FU ((0 : Int32), (0 : Int32), m0) = some (nI (cntS (rcB m (nI v)) bn), fun i => if i = 22 then rcU m (nI v) bn else m0 i) := by
    refine Ok.eqn (Ok.count bn (fun k s => s = (nI (cntS (rcB m (nI v)) k), nI k, fun i => if i = 22 then rcU m (nI v) k else m0 i)) (fun k s hk e => ?_) (fun s e => ?_) bn FU 0 _ (by omega) (by show _ < 100000; omega) ?_)
    · subst e
      have e1 : ¬ m0 0 27 ≤ nI k := by rw [m0z 27 (by decide), b3, nl_le (by omega) (by omega)]; omega
      have e2 : inb (nI k) 100 = true := nl_in (by omega) (by omega)
      have e3 : (nI k).toNatClampNeg = k := nl_cl (by omega)
      have h19 : m0 19 k = m 19 k := by rw [m0n 19 (by decide)]
      have hk22 : rcU m (nI v) k k = m 22 k := by unfold rcU; rw [if_neg (by omega)]
      have hU : ∀ x, upd2 (fun i => if i = 22 then rcU m (nI v) k else m0 i) 22 k x = fun i => if i = 22 then upd (rcU m (nI v) k) k x else m0 i := by
        intro x
        funext i
        by_cases g : i = 22
        · subst g; rw [upd2_s, if_pos rfl, if_pos rfl]
        · rw [upd2_n g, if_neg g, if_neg g]
      have hsame : ∀ x, x = m 22 k → upd (rcU m (nI v) k) k x = rcU m (nI v) k := by
        intro x hx
        funext j
        by_cases g : j = k
        · subst g; rw [pk_us, hk22, hx]
        · rw [pk_un g]
      refine Ok.eq (a := .inl (nI (cntS (rcB m (nI v)) (k + 1)), nI (k + 1), fun i => if i = 22 then rcU m (nI v) (k + 1) else m0 i)) ?_ rfl
      have hcs : cntS (rcB m (nI v)) (k + 1) = cntS (rcB m (nI v)) k + (if rcB m (nI v) k = true then 1 else 0) := rfl
      have hz0 : nI (cntS (rcB m (nI v)) k) + (0 : Int32) = nI (cntS (rcB m (nI v)) k) := Int32.add_zero _
      rw [hcs, rcU_s, show rcB m (nI v) k = (decide (m 19 k = nI v) && decide (¬ m 22 k = 0)) from rfl]
      by_cases g : m 22 k = 0
      · rw [decide_eq_false (show ¬ ¬ m 22 k = 0 from fun q => q g), Bool.and_false, if_neg (by decide), Nat.add_zero]
        have hR : (if m 19 k = nI v then upd (rcU m (nI v) k) k 0 else rcU m (nI v) k) = rcU m (nI v) k := by
          by_cases c : m 19 k = nI v
          · rw [if_pos c]; exact hsame 0 g.symm
          · rw [if_neg c]
        rw [hR]
        have h55 : m_recount_b55 (nI v) (nI k) (nI (cntS (rcB m (nI v)) k)) (fun i => if i = 22 then rcU m (nI v) k else m0 i) = some (.inl (nI (cntS (rcB m (nI v)) k), nI (k + 1), fun i => if i = 22 then rcU m (nI v) k else m0 i)) := by
          unfold m_recount_b55 m_recount_b56
          simp only [e2, e3, gd_t, nmd_eq, ↓reduceIte, hk22, g, nar_b0, hU, hsame 0 g.symm, hz0, nI_1]
        by_cases c : m 19 k = nI v
        · simp only [m_recount_L23, show ¬ (0 : Nat) = 22 from by decide, show ¬ (19 : Nat) = 22 from by decide, ↓reduceIte, e1, e2, e3, gd_t, h19, c, hk22, g, h55]
        · simp only [m_recount_L23, show ¬ (0 : Nat) = 22 from by decide, show ¬ (19 : Nat) = 22 from by decide, ↓reduceIte, e1, e2, e3, gd_t, h19, c, h55]
      · have h221 : m 22 k = 1 := by
          obtain ⟨_, _, -, -, -, -, q5⟩ := hF.2.1 k hk
          rcases q5 with q | ⟨q, -⟩
          · exact absurd q g
          · exact q
        rw [decide_eq_true (show ¬ m 22 k = 0 from g), Bool.and_true]
        by_cases c : m 19 k = nI v
        · rw [if_pos c, decide_eq_true c, if_pos rfl]
          have h56 : m_recount_b56 (nI v) (nI k) (1 : Int32) (nI (cntS (rcB m (nI v)) k)) (fun i => if i = 22 then rcU m (nI v) k else m0 i) = some (.inl (nI (cntS (rcB m (nI v)) k + 1), nI (k + 1), fun i => if i = 22 then upd (rcU m (nI v) k) k 0 else m0 i)) := by
            unfold m_recount_b56
            simp only [e2, e3, gd_t, nmd_eq, ↓reduceIte, hk22, g, show ¬ (19 : Nat) = 22 from by decide, h19, c, nar_b0, hU, nI_1]
          simp only [m_recount_L23, show ¬ (0 : Nat) = 22 from by decide, show ¬ (19 : Nat) = 22 from by decide, ↓reduceIte, e1, e2, e3, gd_t, h19, c, hk22, g, h56]
        · rw [if_neg c, decide_eq_false c, if_neg (by decide), Nat.add_zero]
          have h55 : m_recount_b55 (nI v) (nI k) (nI (cntS (rcB m (nI v)) k)) (fun i => if i = 22 then rcU m (nI v) k else m0 i) = some (.inl (nI (cntS (rcB m (nI v)) k), nI (k + 1), fun i => if i = 22 then rcU m (nI v) k else m0 i)) := by
            unfold m_recount_b55 m_recount_b56
            simp only [e2, e3, gd_t, nmd_eq, ↓reduceIte, hk22, g, show ¬ (19 : Nat) = 22 from by decide, h19, c, nar_b1, hU, hsame 1 h221.symm, hz0, nI_1]
          simp only [m_recount_L23, show ¬ (0 : Nat) = 22 from by decide, show ¬ (19 : Nat) = 22 from by decide, ↓reduceIte, e1, e2, e3, gd_t, h19, c, h55]
    · subst e
      have e1 : m0 0 27 ≤ nI bn := by rw [m0z 27 (by decide), b3, nl_le (by omega) (by omega)]; omega
      exact Ok.eq (a := .inr _) (by simp only [m_recount_L23, show ¬ (0 : Nat) = 22 from by decide, ↓reduceIte, e1]) rfl
    · show (_, _, _) = (_, _, _)
      congr 2
      funext i
      by_cases g : i = 22
      · subst g
        rw [if_pos rfl, m0n 22 (by decide)]
        funext j
        unfold rcU
        rw [if_neg (by omega)]
      · rw [if_neg g]
  have t1 : ¬ tI true = (0 : Int32) := by decide
  unfold m_recount
  rw [c4, m_below, bnd_eq, blw_t hv (by omega), show m_goes (tI true) (1 : Int32) (1 : Int32) m = some (tI true, m0) from by rw [← hm0]; exact goes_1 true m, bnd_eq, if_neg t1, key2]; rfl
theorem s_recount (h : Inv t w m) (c : Cn m nE bn rn vn) (hv : v < vn) : ∃ w' m', l_recount (nI v) w = some (nI (cntS (rcB m (nI v)) bn), w') ∧ Inv (t + 1) w' m' ∧ Fr [22] [] m m' ∧ ∀ k, m' 22 k = rcU m (nI v) bn k := by
  obtain ⟨res, w', z, m', e1, e2, hI, hg⟩ := q_recount h (nI v)
  have e3 := e_recount h c hv
  obtain ⟨rfl, rfl⟩ := Prod.mk.inj (Option.some.inj (e2.symm.trans e3))
  rw [agr_r (by decide) hg (by (try dsimp only); rw [if_neg (by decide), thr_at])] at e1
  refine ⟨w', _, lx2 e1, hI, ⟨fun i h0 _ h2 => ?_, fun j h1 h2 => ?_⟩, fun k => ?_⟩
  · simp only [List.mem_cons, List.not_mem_nil, or_false] at h2
    (try dsimp only)
    rw [if_neg h2, thr_n h0]
  · (try dsimp only)
    rw [if_neg (by decide), thr_z (by omega)]
  · (try dsimp only)
    rw [if_pos rfl]
theorem recount_0 {m' : Wt} (f : Fr [22] [] m m') (hm : ∀ k, m' 22 k = rcU m (nI v) bn k) : cntS (rcB m' (nI v)) bn = 0 := by
  refine cnt_0 bn (fun k hk => ?_)
  unfold rcB
  by_cases g : m' 19 k = nI v
  · have g2 : m 19 k = nI v := by rw [f.1 19 (by decide) (by decide) (by simp)] at g; exact g
    have : m' 22 k = 0 := by rw [hm]; unfold rcU; rw [if_pos ⟨hk, g2⟩]
    rw [this, decide_eq_false (show ¬ ¬ (0 : Int32) = 0 from fun x => x rfl), Bool.and_false]
  · rw [decide_eq_false g, Bool.false_and]
/-- all but the marks of misreadings and the desk's own numbers -/
def sm0 (m0 m2 : Wt) : Prop := ∀ i, i ≠ 15 → i ≠ 16 → i ≠ 22 → m2 i = m0 i
set_option maxHeartbeats 2000000 in
theorem draws2 {m0 : Wt} {cc mk : Nat} (hK : Core w m0 nE bn) (hcc : cntS (ofV m0 bn nE (nI v)) bn = cc) (h0 : 0 < cc) (hmk : mk ≤ 20) : ∀ d j x f fuel m2, j + d = mk → d < fuel → x < 65536 → sm0 m0 m2 → (∀ b, b < bn → m2 22 b = 0 ∨ m2 22 b = 1) → ∃ g m3, g ≤ d ∧ lp (m_sample_L86 (nI v) (nI mk) (nI cc)) fuel (nI x, nI f, nI j, m2) = some (nI (f + g), m3) ∧ (∀ i, i ≠ 22 → m3 i = m2 i) ∧ (∀ b, m3 22 b = 0 ∨ m3 22 b = m2 22 b) ∧ ∀ f4 fuel4 m4, d < fuel4 → sm0 m0 m4 → (∀ b, m3 22 b = 0 → m4 22 b = 0) → ∃ m5, lp (m_sample_L86 (nI v) (nI mk) (nI cc)) fuel4 (nI x, nI f4, nI j, m4) = some (nI f4, m5) ∧ ∀ i, i ≠ 22 → m5 i = m4 i := by
  have hbn := hK.2.1.1
  have hcb : cc ≤ bn := by rw [← hcc]; exact cntS_le
  intro d
  induction d with
  | zero =>
    intro j x f fuel m2 s1 s2 s3 s4 s5
    obtain ⟨fuel, rfl⟩ : ∃ f, fuel = f + 1 := ⟨fuel - 1, by omega⟩
    have d1 : nI mk ≤ nI j := by rw [nl_le (by omega) (by omega)]; omega
    refine ⟨0, m2, Nat.le_refl _, ?_, fun _ _ => rfl, fun _ => Or.inr rfl, fun f4 fuel4 m4 q1 q2 q3 => ⟨m4, ?_, fun _ _ => rfl⟩⟩
    · unfold lp; simp only [m_sample_L86, d1, ↓reduceIte] <;> rfl
    · obtain ⟨fuel4, rfl⟩ : ∃ f, fuel4 = f + 1 := ⟨fuel4 - 1, by omega⟩
      unfold lp; simp only [m_sample_L86, d1, ↓reduceIte] <;> rfl
  | succ d ih =>
    intro j x f fuel m2 s1 s2 s3 s4 s5
    obtain ⟨fuel, rfl⟩ : ∃ f, fuel = f + 1 := ⟨fuel - 1, by omega⟩
    have d1 : ¬ nI mk ≤ nI j := by rw [nl_le (by omega) (by omega)]; omega
    have d2 : nzb (65536 : Int32) = true := by decide
    have d3 : ((1103 : Int32) * nI x) + (12345 : Int32) = nI (1103 * x + 12345) := by
      rw [show (1103 : Int32) = nI 1103 from rfl, pk_mul, show (12345 : Int32) = nI 12345 from rfl, nI_add]
    have d4 : nI (1103 * x + 12345) - nI (1103 * x + 12345) / (65536 : Int32) * (65536 : Int32) = nI ((1103 * x + 12345) % 65536) := pk_rem (d := 65536) (by omega) (by omega) (by omega)
    generalize hy : (1103 * x + 12345) % 65536 = y at d4
    have hy2 : y < 65536 := by rw [← hy]; exact Nat.mod_lt _ (by omega)
    have d5 : nzb (nI cc) = true := by
      have : ¬ nI cc = 0 := by rw [qe_0 (by omega)]; omega
      unfold nzb; exact decide_eq_true this
    have d6 : nI y - nI y / nI cc * nI cc = nI (y % cc) := pk_rem (by omega) h0 (by omega)
    have hyc : y % cc < cc := Nat.mod_lt _ h0
    have hlen : (glS (ofV m0 bn nE (nI v)) bn 0).length = cc := by rw [glS_cnt, hcc]
    obtain ⟨b, hb⟩ : ∃ b, (glS (ofV m0 bn nE (nI v)) bn 0)[y % cc]? = some b := ⟨_, List.getElem?_eq_getElem (by omega)⟩
    have hbm := glS_mem (List.mem_of_getElem? hb)
    have d11 : inb (nI b) 100 = true := nl_in (by omega) (by omega)
    have d12 : (nI b).toNatClampNeg = b := nl_cl (by omega)
    have hcnt : ∀ m4, sm0 m0 m4 → m_countedAt (nI v) (nI (y % cc)) m4 = some (nI b) := fun m4 q => by
      have hof : ofV m4 bn nE (nI v) = ofV m0 bn nE (nI v) := by
        funext k
        unfold ofV rsM laM enM
        rw [q 1 (by decide) (by decide) (by decide), q 2 (by decide) (by decide) (by decide), q 3 (by decide) (by decide) (by decide), q 4 (by decide) (by decide) (by decide), q 5 (by decide) (by decide) (by decide), q 9 (by decide) (by decide) (by decide), q 19 (by decide) (by decide) (by decide), q 20 (by decide) (by decide) (by decide), q 21 (by decide) (by decide) (by decide)]
      have hK4 : Core w m4 nE bn := hK.cg rfl rfl (fun _ _ => rfl) (by rw [q 0 (by decide) (by decide) (by decide)]) (by rw [q 0 (by decide) (by decide) (by decide)]) (fun i hi => q i (by omega) (by omega) (by omega))
      exact m_counted hK4 (by rw [hof]; exact hb)
    have s4' : ∀ m4, sm0 m0 m4 → sm0 m0 (upd2 m4 22 b 0) := fun m4 q i h1 h2 h3 => by rw [upd2_n h3]; exact q i h1 h2 h3
    have step : ∀ (f : Nat) m4, sm0 m0 m4 → m_sample_L86 (nI v) (nI mk) (nI cc) (nI x, nI f, nI j, m4) = some (.inl (nI y, nI (f + (if m4 22 b = 0 then 0 else 1)), nI (j + 1), upd2 m4 22 b 0)) := fun f m4 q => by
      by_cases gg : m4 22 b = 0
      · rw [if_pos gg]
        simp only [m_sample_L86, d1, ↓reduceIte, d2, gd_t, nmd_eq, d3, d4, d5, d6, hcnt m4 q, bnd_eq, d11, d12, gg, m_sample_b136, nar_b0, Int32.add_zero, Nat.add_zero, nI_1]
      · rw [if_neg gg]
        simp only [m_sample_L86, d1, ↓reduceIte, d2, gd_t, nmd_eq, d3, d4, d5, d6, hcnt m4 q, bnd_eq, d11, d12, gg, m_sample_b136, nar_b0, nI_1]
    obtain ⟨g, m3, r0, r1, r2, r3, r4⟩ := ih (j + 1) y (f + (if m2 22 b = 0 then 0 else 1)) fuel (upd2 m2 22 b 0) (by omega) (by omega) hy2 (s4' m2 s4) (fun b' hb' => by
      rw [upd2_at, if_pos rfl]
      by_cases q : b' = b
      · rw [if_pos q]; exact Or.inl rfl
      · rw [if_neg q]; exact s5 b' hb')
    have hb3 : m3 22 b = 0 := by
      rcases r3 b with q | q
      · exact q
      · rw [q, upd2_at, if_pos rfl, if_pos rfl]
    refine ⟨(if m2 22 b = 0 then 0 else 1) + g, m3, ?_, ?_, fun i hi => ?_, fun b' => ?_, fun f4 fuel4 m4 q1 q2 q3 => ?_⟩
    · split <;> omega
    · show Option.bind _ _ = _
      rw [step f m2 s4, bnd_eq, ← Nat.add_assoc]
      exact r1
    · rw [r2 i hi, upd2_n hi]
    · rcases r3 b' with q | q
      · exact Or.inl q
      · rw [q, upd2_at, if_pos rfl]
        by_cases q2 : b' = b
        · rw [if_pos q2]; exact Or.inl rfl
        · rw [if_neg q2]; exact Or.inr rfl
    · obtain ⟨fuel4, rfl⟩ : ∃ f, fuel4 = f + 1 := ⟨fuel4 - 1, by omega⟩
      obtain ⟨m5, p1, p2⟩ := r4 f4 fuel4 (upd2 m4 22 b 0) (by omega) (s4' m4 q2) (fun b' hb' => by
        rw [upd2_at, if_pos rfl]
        by_cases q : b' = b
        · rw [if_pos q]
        · rw [if_neg q]; exact q3 b' hb')
      refine ⟨m5, ?_, fun i hi => by rw [p2 i hi, upd2_n hi]⟩
      show Option.bind _ _ = _
      rw [step f4 m4 q2, bnd_eq, q3 b hb3, if_pos rfl, Nat.add_zero]
      exact p1
theorem e_sample (h : Inv t w m) (c : Cn m nE bn rn vn) (hv : v < vn) {x mk : Nat} (hx : x ≤ 9999) (hm1 : 1 ≤ mk) (hm2 : mk ≤ 20) : m_sample (nI v) (nI x) (nI mk) m = if 0 < cntS (ofV m bn nE (nI v)) bn then Option.bind (lp (m_sample_L86 (nI v) (nI mk) (nI (cntS (ofV m bn nE (nI v)) bn))) FU (nI x, (0 : Int32), (0 : Int32), upd2 m 0 45 0)) (m_sample_x86 (nI v) (nI mk)) else some (0, upd2 m 0 45 3) := by
  obtain ⟨hA, hC, hG, hK, h5, hD, hE, hF⟩ := h.at c
  obtain ⟨⟨c1, c2, c3, c4⟩, z1, z2, z3, z4⟩ := id c
  have t1 : ¬ tI true = (0 : Int32) := by decide
  have w1 : wthn (nI x) 0 9999 = true := wth_n (l := 0) (h := 9999) (by omega) (by omega) (by omega) (by omega) (by omega)
  have w2 : wthn (nI mk) 1 20 = true := wth_n (l := 1) (h := 20) (by omega) (by omega) (by omega) (by omega) (by omega)
  have hcn : cntS (ofV m bn nE (nI v)) bn ≤ bn := cntS_le
  unfold m_sample
  rw [c4, m_below, bnd_eq, blw_t hv (by omega), m_within, bnd_eq, w1, if_neg t1, m_within, bnd_eq, w2, if_neg t1]
  unfold m_sample_b36
  rw [if_neg t1, hK.inM, bnd_eq]
  unfold m_sample_b52
  simp only [qa_0 (show cntS (ofV m bn nE (nI v)) bn < 2147483648 by omega)]
  by_cases g : cntS (ofV m bn nE (nI v)) bn ≤ 0
  · rw [if_pos g, if_neg (show ¬ 0 < cntS (ofV m bn nE (nI v)) bn by omega)]
    unfold m_sample_b69
    rw [show m_goes (tI true) (1 : Int32) (0 : Int32) m = some (tI false, upd2 m 0 45 3) from m_goes_eq true true false m, bnd_eq, if_pos (show tI false = (0 : Int32) from rfl)]
  · rw [if_neg g, if_pos (show 0 < cntS (ofV m bn nE (nI v)) bn by omega)]
    unfold m_sample_b69
    rw [show m_goes (tI true) (1 : Int32) (1 : Int32) m = some (tI true, upd2 m 0 45 0) from goes_1 true m, bnd_eq, if_neg t1]
set_option maxHeartbeats 2000000 in
theorem s_sample (h : Inv t w m) (c : Cn m nE bn rn vn) (ht : t + 1 ≤ 100000) (hv : v < vn) {x mk : Nat} (hx : x ≤ 9999) (hm1 : 1 ≤ mk) (hm2 : mk ≤ 20) : (∃ w' m', l_sample (nI v) (nI x) (nI mk) w = some (-103, w') ∧ Inv (t + 1) w' m' ∧ Fr [] [] m m') ∨ ∃ g w' m' m'', g ≤ mk ∧ l_sample (nI v) (nI x) (nI mk) w = some (nI g, w') ∧ Inv (t + 1) w' m' ∧ (∀ wj, Inv (t + 1) wj m' → ∃ wk, l_sample (nI v) (nI x) (nI mk) wj = some (0, wk) ∧ Inv (t + 2) wk m'') ∧ Fr [15, 16, 22] [] m m'' ∧ (∀ k, m'' 15 k = if k = v then m 15 v + nI mk + nI mk else m 15 k) ∧ (∀ k, m'' 16 k = if k = v then m 16 v + nI g + 0 else m 16 k) := by
  obtain ⟨res, w', z, m', e1, e2, hI, hg⟩ := q_sample h (by omega) (nI v) (nI x) (nI mk)
  obtain ⟨hA, hC, hG, hK, h5, hD, ⟨⟨v1, v2, v3⟩, hE2, hE3, -⟩, hF⟩ := h.at c
  obtain ⟨⟨c1, c2, c3, c4⟩, z1, z2, z3, z4⟩ := id c
  have y1 : inb (nI v) 8 = true := nl_in (by omega) (by omega)
  have y2 : (nI v).toNatClampNeg = v := nl_cl (by omega)
  have e3 := e_sample h c hv hx hm1 hm2
  have hcn : cntS (ofV m bn nE (nI v)) bn ≤ bn := cntS_le
  by_cases g : 0 < cntS (ofV m bn nE (nI v)) bn
  · right
    rw [if_pos g] at e3
    have hof0 : ofV (upd2 m 0 45 0) bn nE (nI v) = ofV m bn nE (nI v) := by
      funext k
      unfold ofV rsM laM enM
      rw [thr_n (by decide), thr_n (by decide), thr_n (by decide), thr_n (by decide), thr_n (by decide), thr_n (by decide), thr_n (by decide), thr_n (by decide), thr_n (by decide)]
    have h22 : ∀ b, b < bn → upd2 m 0 45 0 22 b = 0 ∨ upd2 m 0 45 0 22 b = 1 := fun b hb => by
      rw [thr_n (by decide)]
      obtain ⟨_, _, -, -, -, -, q5⟩ := hF.2.1 b hb
      rcases q5 with q | ⟨q, -⟩
      · exact Or.inl q
      · exact Or.inr q
    obtain ⟨gg, m3, r0, r1, r2, r3, r4⟩ := draws2 (w := w) (m0 := upd2 m 0 45 0) (v := v) (cc := cntS (ofV m bn nE (nI v)) bn) (mk := mk) (hK.kpm thr_k) (by rw [hof0]) g hm2 mk 0 x 0 FU (upd2 m 0 45 0) (by omega) (by show _ < 100000; omega) (by omega) (fun _ _ _ _ => rfl) h22
    have b153 : ∀ (f : Int32) (m4 : Wt), m_sample_x86 (nI v) (nI mk) (f, m4) = some (f, upd2 (upd2 m4 15 v (m4 15 v + nI mk)) 16 v (m4 16 v + f)) := fun f m4 => by
      show m_sample_b153 (nI v) (nI mk) f m4 = _
      unfold m_sample_b153
      simp only [y1, y2, gd_t, nmd_eq, upd2_n (show (16 : Nat) ≠ 15 by decide)]
    have e4 : m_sample (nI v) (nI x) (nI mk) m = some (nI gg, upd2 (upd2 m3 15 v (m3 15 v + nI mk)) 16 v (m3 16 v + nI gg)) := by
      rw [e3, show (nI x, (0 : Int32), (0 : Int32), upd2 m 0 45 0) = (nI x, nI 0, nI 0, upd2 m 0 45 0) from rfl, r1, bnd_eq, Nat.zero_add, b153]
    obtain ⟨rfl, hm'⟩ := Prod.mk.inj (Option.some.inj (e2.symm.trans e4))
    have hth : m' 0 45 = 0 := by rw [hm', upd2_n (by decide), upd2_n (by decide), r2 0 (by decide), thr_at]
    rw [agr_r (by decide) hg hth] at e1
    have m'n : ∀ i, i ≠ 15 → i ≠ 16 → i ≠ 22 → m' i = upd2 m 0 45 0 i := fun i g1 g2 g3 => by rw [hm', upd2_n g2, upd2_n g1, r2 i g3]
    have m'15 : ∀ k, m' 15 k = if k = v then m 15 v + nI mk else m 15 k := fun k => by rw [hm', upd2_n (by decide), upd2_at, if_pos rfl, r2 15 (by decide), thr_n (by decide)]
    have m'16 : ∀ k, m' 16 k = if k = v then m 16 v + nI gg else m 16 k := fun k => by rw [hm', upd2_at, if_pos rfl, upd2_n (by decide), r2 16 (by decide), thr_n (by decide)]
    have m'22 : m' 22 = m3 22 := by rw [hm', upd2_n (by decide), upd2_n (by decide)]
    have f' : Fr [15, 16, 22] [] m m' := ⟨fun i h0 _ h2 => by
      simp only [List.mem_cons, List.not_mem_nil, or_false, not_or] at h2
      rw [m'n i h2.1 h2.2.1 h2.2.2, thr_n h0], fun j h1 _ => by rw [m'n 0 (by decide) (by decide) (by decide), thr_z (by omega)]⟩
    have c' : Cn m' nE bn rn vn := c.fr f' (by simp)
    have hof' : ofV m' bn nE (nI v) = ofV m bn nE (nI v) := by
      funext k
      unfold ofV rsM laM enM
      rw [f'.1 1 (by decide) (by decide) (by simp), f'.1 2 (by decide) (by decide) (by simp), f'.1 3 (by decide) (by decide) (by simp), f'.1 4 (by decide) (by decide) (by simp), f'.1 5 (by decide) (by decide) (by simp), f'.1 9 (by decide) (by decide) (by simp), f'.1 19 (by decide) (by decide) (by simp), f'.1 20 (by decide) (by decide) (by simp), f'.1 21 (by decide) (by decide) (by simp)]
    obtain ⟨m5, p1, p2⟩ := r4 0 FU (upd2 m' 0 45 0) (by show _ < 100000; omega) (fun i g1 g2 g3 => by
      by_cases g0 : i = 0
      · subst g0
        funext k
        rw [upd2_at, if_pos rfl]
        by_cases q : k = 45
        · rw [if_pos q, q, thr_at]
        · rw [if_neg q, m'n 0 (by decide) (by decide) (by decide)]
      · rw [thr_n g0]; exact m'n i g1 g2 g3) (fun b hb => by rw [thr_n (by decide), m'22]; exact hb)
    have e5 : m_sample (nI v) (nI x) (nI mk) m' = some (nI 0, upd2 (upd2 m5 15 v (m5 15 v + nI mk)) 16 v (m5 16 v + nI 0)) := by
      rw [e_sample hI c' hv hx hm1 hm2, hof', if_pos g, show (nI x, (0 : Int32), (0 : Int32), upd2 m' 0 45 0) = (nI x, nI 0, nI 0, upd2 m' 0 45 0) from rfl, p1, bnd_eq, b153]
    refine ⟨gg, w', m', upd2 (upd2 m5 15 v (m5 15 v + nI mk)) 16 v (m5 16 v + nI 0), r0, lx2 e1, hI, fun wj hj => ?_, ⟨fun i h0 h1 h2 => ?_, fun j h1 h2 => ?_⟩, fun k => ?_, fun k => ?_⟩
    · obtain ⟨res2, wk, z2', mk2, a1, a2, aI, ag⟩ := q_sample hj (by omega) (nI v) (nI x) (nI mk)
      obtain ⟨rfl, rfl⟩ := Prod.mk.inj (Option.some.inj (a2.symm.trans e5))
      rw [agr_r (by decide) ag (by rw [upd2_n (by decide), upd2_n (by decide), p2 0 (by decide), thr_at])] at a1
      exact ⟨wk, lx2 a1, aI⟩
    · simp only [List.mem_cons, List.not_mem_nil, or_false, not_or] at h2
      rw [upd2_n h2.2.1, upd2_n h2.1, p2 i h2.2.2, thr_n h0, m'n i h2.1 h2.2.1 h2.2.2, thr_n h0]
    · rw [upd2_n (by decide), upd2_n (by decide), p2 0 (by decide), thr_z (by omega), m'n 0 (by decide) (by decide) (by decide), thr_z (by omega)]
    · rw [upd2_n (by decide), upd2_at, if_pos rfl, p2 15 (by decide), thr_n (by decide), m'15, m'15, if_pos rfl]
      split <;> rfl
    · rw [upd2_at, if_pos rfl, upd2_n (by decide), p2 16 (by decide), thr_n (by decide), m'16, m'16, if_pos rfl]
      split <;> rfl
  · left
    rw [if_neg g] at e3
    obtain ⟨rfl, rfl⟩ := Prod.mk.inj (Option.some.inj (e2.symm.trans e3))
    rw [agr_x 2 (by decide) (by decide) hg thr_at] at e1
    exact ⟨w', _, lx2x (by decide) e1, hI, fr0⟩
end RDESK

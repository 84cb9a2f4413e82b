/-! TALLIES: what a ballot gives; the class's rows, the reference's rows, and by hand -/
def val (kd n a : Nat) : Int32 := if kd = 98 then nI n - nI a else if kd = 97 then 1 else if a = 0 then 1 else 0
/-- what the places from p on, d of them, give to c; a of those that stand are ahead -/
def giv (kd n S c : Nat) (rd : Nat → Nat) : Nat → Nat → Nat → Int32
  | 0, _, _ => 0
  | d + 1, p, a => if hs S (rd p) = true then (if rd p = c then val kd n a else 0) + giv kd n S c rd d (p + 1) (a + 1) else giv kd n S c rd d (p + 1) a
def anS (S : Nat) (rd : Nat → Nat) : Nat → Nat → Bool
  | 0, _ => false
  | d + 1, p => hs S (rd p) || anS S rd d (p + 1)
def vtL (rd : Nat → Nat → Nat) (ln : Nat → Nat) (kd S c : Nat) : List Nat → Int32
  | [] => 0
  | b :: r => giv kd (pcN S) S c (rd b) (ln b) 0 0 + vtL rd ln kd S c r
def wtL (rd : Nat → Nat → Nat) (ln : Nat → Nat) (S : Nat) : List Nat → Nat
  | [] => 0
  | b :: r => (if anS S (rd b) (ln b) 0 = true then 1 else 0) + wtL rd ln S r
theorem vtL_c (rd : Nat → Nat → Nat) (ln : Nat → Nat) (kd S c b : Nat) (r : List Nat) : vtL rd ln kd S c (b :: r) = giv kd (pcN S) S c (rd b) (ln b) 0 0 + vtL rd ln kd S c r := rfl
theorem wtL_c (rd : Nat → Nat → Nat) (ln : Nat → Nat) (S b : Nat) (r : List Nat) : wtL rd ln S (b :: r) = (if anS S (rd b) (ln b) 0 = true then 1 else 0) + wtL rd ln S r := rfl
theorem wtL_le {rd : Nat → Nat → Nat} {ln : Nat → Nat} {S : Nat} : ∀ l : List Nat, wtL rd ln S l ≤ l.length := by
  intro l
  induction l with
  | nil => exact Nat.le_refl _
  | cons b r ih => unfold wtL; rw [List.length_cons]; split <;> omega
theorem giv_t {n S c : Nat} {rd : Nat → Nat} : ∀ d p a, 0 < a → giv 116 n S c rd d p a = 0 := by
  intro d
  induction d with
  | zero => intro p a h; rfl
  | succ d ih =>
    intro p a h
    unfold giv
    rw [ih _ _ (by omega), ih _ _ h]
    have hv : val 116 n a = 0 := by
      unfold val
      rw [if_neg (by decide), if_neg (by decide), if_neg (by omega)]
    rw [hv]
    split
    · split <;> rfl
    · rfl
theorem giv_0 {kd n S c : Nat} {rd : Nat → Nat} : ∀ d p a, (∀ q, p ≤ q → q < p + d → rd q ≠ c) → giv kd n S c rd d p a = 0 := by
  intro d
  induction d with
  | zero => intro p a h; rfl
  | succ d ih =>
    intro p a h
    unfold giv
    rw [ih _ _ (fun q h1 h2 => h q (by omega) (by omega)), ih _ _ (fun q h1 h2 => h q (by omega) (by omega)), if_neg (h p (by omega) (by omega))]
    split <;> rfl
theorem giv_n {kd n S c : Nat} {rd : Nat → Nat} (hc : hs S c = false) : ∀ d p a, giv kd n S c rd d p a = 0 := by
  intro d
  induction d with
  | zero => intro p a; rfl
  | succ d ih =>
    intro p a
    unfold giv
    rw [ih, ih]
    by_cases h : hs S (rd p) = true
    · rw [if_pos h, if_neg (fun e => by rw [e, hc] at h; cases h)]; rfl
    · rw [if_neg h]
theorem i_sub1 (n a : Nat) : nI n - nI a + (-1 : Int32) = nI n - nI (a + 1) := by
  rw [← nI_1 a]
  simp only [Int32.sub_eq_add_neg, Int32.neg_add, Int32.add_assoc]
/-- how a ballot is read: d places, each a candidate below 6 -/
def BXc (w : Wt) (rd : Nat → Nat → Nat) (ln : Nat → Nat) (l : List Nat) : Prop := ∀ b, b ∈ l → b < 100 ∧ ln b ≤ 6 ∧ w 18 b = nI (ln b) ∧ ∀ p, p < ln b → rd b p < 6 ∧ f_Box_candidateAt (nI b) (nI p) w = some (nI (rd b p))
theorem BXc.kp {w w' : Wt} {rd : Nat → Nat → Nat} {ln : Nat → Nat} {l : List Nat} (h : BXc w rd ln l) (h18 : w' 18 = w 18) (h19 : w' 19 = w 19) (h20 : w' 20 = w 20) : BXc w' rd ln l := fun b hb => by
  obtain ⟨a1, a2, a3, a4⟩ := h b hb
  exact ⟨a1, a2, by rw [h18]; exact a3, fun p hp => ⟨(a4 p hp).1, by rw [cA_cong h18 h19 h20]; exact (a4 p hp).2⟩⟩
theorem f_addB {rd : Nat → Nat} {b ln kd n S tn : Nat} (hb : b < 100) (hln : ln ≤ 6) (hkd : kd = 116 ∨ kd = 98 ∨ kd = 97) (hS : S < 64) (htn : tn < 156) : ∀ d p a fuel (g : Bool) (l4 : Int32) (w : Wt), p + d = ln → d < fuel → (kd = 98 → l4 = nI n - nI a) → (kd ≠ 98 → l4 = 1) → (kd = 116 → a = 0) → w 18 b = nI ln → w 22 5 = nI S → (∀ p, p < ln → rd p < 6 ∧ f_Box_candidateAt (nI b) (nI p) w = some (nI (rd p))) →
    Ok (lp (f_MachineCount_addBallot_L25 (nI b) (nI kd) (nI (tn * 6))) fuel (l4, tI g, nI p, w)) (fun r => ∃ w', f_MachineCount_addBallot_x25 r = some (tI (g || anS S rd d p), w') ∧ (∀ c, c < 6 → w' 24 (tn * 6 + c) = w 24 (tn * 6 + c) + giv kd n S c rd d p a) ∧ (∀ i, i ≠ 24 → w' i = w i) ∧ ∀ k, k < tn * 6 ∨ tn * 6 + 6 ≤ k → w' 24 k = w 24 k) := by
  intro d
  have e4 : inb (nI b) 100 = true := nl_in (by omega) (by omega)
  have e5 : (nI b).toNatClampNeg = b := nl_cl (by omega)
  have hkd2 : kd < 2147483648 := by omega
  induction d with
  | zero =>
    intro p a fuel g l4 w h1 h2 h3 h4 h5 h6 h7 h8
    obtain ⟨fuel, rfl⟩ : ∃ f, fuel = f + 1 := ⟨fuel - 1, by omega⟩
    have e1 : w 18 b ≤ nI p := by rw [h6, nl_le (by omega) (by omega)]; omega
    unfold lp
    refine ⟨.inl (tI g, w), by simp only [f_MachineCount_addBallot_L25, e4, e5, gd_t, e1, ↓reduceIte] <;> rfl, w, ?_, fun c hc => ?_, fun i _ => rfl, fun k _ => rfl⟩
    · unfold anS; rw [Bool.or_false]; rfl
    · unfold giv; rw [Int32.add_zero]
  | succ d ih =>
    intro p a fuel g l4 w h1 h2 h3 h4 h5 h6 h7 h8
    obtain ⟨fuel, rfl⟩ : ∃ f, fuel = f + 1 := ⟨fuel - 1, by omega⟩
    have e1 : ¬ w 18 b ≤ nI p := by rw [h6, nl_le (by omega) (by omega)]; omega
    obtain ⟨hr, hc⟩ := h8 p (by omega)
    have e2 : ¬ nI (rd p) < (0 : Int32) := nl_neg (by omega)
    unfold lp
    cases hh : hs S (rd p) with
    | false =>
      obtain ⟨r, er, w', g1, g2, g3, g4⟩ := ih (p + 1) a fuel g l4 w (by omega) (by omega) h3 h4 h5 h6 h7 h8
      refine ⟨r, ?_, w', ?_, fun c hc => ?_, g3, g4⟩
      · simp only [f_MachineCount_addBallot_L25, e4, e5, gd_t, e1, hc, bnd_eq, e2, h7, zb_has S hS _ hr, hh, tI0, nI_1, ↓reduceIte]
        exact er
      · unfold anS; rw [hh, Bool.false_or]; exact g1
      · unfold giv; rw [hh, if_neg (by decide)]; exact g2 c hc
    | true =>
      have e6 : nI (tn * 6) + nI (rd p) = nI (tn * 6 + rd p) := nI_add _ _
      have e7 : inb (nI (tn * 6 + rd p)) 936 = true := nl_in (by omega) (by omega)
      have e8 : (nI (tn * 6 + rd p)).toNatClampNeg = tn * 6 + rd p := nl_cl (by omega)
      have hv : l4 = val kd n a := by
        unfold val
        by_cases c1 : kd = 98
        · rw [if_pos c1]; exact h3 c1
        · rw [if_neg c1, h4 c1]
          by_cases c2 : kd = 97
          · rw [if_pos c2]
          · rw [if_neg c2, if_pos (h5 (by omega))]
      have hun : giv kd n S = giv kd n S := rfl
      generalize hw1 : upd2 w 24 (tn * 6 + rd p) (w 24 (tn * 6 + rd p) + l4) = w1
      have k1 : ∀ i, i ≠ 24 → w1 i = w i := fun i hi => by rw [← hw1, upd2_n hi]
      have k2 : ∀ c, c < 6 → w1 24 (tn * 6 + c) = w 24 (tn * 6 + c) + (if rd p = c then val kd n a else 0) := by
        intro c hc6
        rw [← hw1, upd2_at, if_pos rfl]
        by_cases c1 : rd p = c
        · rw [if_pos (by omega), if_pos c1, hv, c1]
        · rw [if_neg (by omega), if_neg c1, Int32.add_zero]
      have k3 : ∀ k, k < tn * 6 ∨ tn * 6 + 6 ≤ k → w1 24 k = w 24 k := fun k hk => by rw [← hw1, upd2_at, if_pos rfl, if_neg (by omega)]
      by_cases c1 : kd = 116
      · subst c1
        have ha := h5 rfl
        subst ha
        refine ⟨.inr ((1 : Int32), w1), ?_, w1, ?_, fun c hc6 => ?_, k1, k3⟩
        · simp only [f_MachineCount_addBallot_L25, e4, e5, gd_t, e1, hc, bnd_eq, e2, h7, zb_has S hS _ hr, hh, tI0, nI_1, ↓reduceIte, Bool.true_eq_false, e6, e7, e8, nmd_eq, hw1, show nI 116 = (116 : Int32) from rfl]
        · unfold anS; rw [hh, Bool.true_or, Bool.or_true]; rfl
        · unfold giv
          rw [hh, if_pos rfl, giv_t _ _ _ (by omega), Int32.add_zero]
          exact k2 c hc6
      · have hc1 : ∀ q, q < ln → rd q < 6 ∧ f_Box_candidateAt (nI b) (nI q) w1 = some (nI (rd q)) := fun q hq => ⟨(h8 q hq).1, by rw [cA_cong (k1 18 (by decide)) (k1 19 (by decide)) (k1 20 (by decide))]; exact (h8 q hq).2⟩
        obtain ⟨r, er, w', g1, g2, g3, g4⟩ := ih (p + 1) (a + 1) fuel true (if kd = 98 then l4 + (-1) else l4) w1 (by omega) (by omega) (fun e => by rw [if_pos e, h3 e, i_sub1]) (fun e => by rw [if_neg e]; exact h4 e) (fun e => absurd e c1) (by rw [k1 18 (by decide)]; exact h6) (by rw [k1 22 (by decide)]; exact h7) hc1
        refine ⟨r, ?_, w', ?_, fun c hc6 => ?_, fun i hi => (g3 i hi).trans (k1 i hi), fun k hk => (g4 k hk).trans (k3 k hk)⟩
        · simp only [f_MachineCount_addBallot_L25, e4, e5, gd_t, e1, hc, bnd_eq, e2, h7, zb_has S hS _ hr, hh, tI0, nI_1, ↓reduceIte, Bool.true_eq_false, e6, e7, e8, nmd_eq, hw1, qe_116 hkd2, c1, qe_98 hkd2]
          rw [← er]
          by_cases c2 : kd = 98
          · rw [if_pos c2, if_pos c2]; rfl
          · rw [if_neg c2, if_neg c2]; rfl
        · unfold anS; rw [hh, Bool.true_or, Bool.or_true]; rw [Bool.true_or] at g1; exact g1
        · unfold giv
          rw [g2 c hc6, k2 c hc6, hh, if_pos rfl, Int32.add_assoc]
theorem f_addBallot {w : Wt} {rd : Nat → Nat} {b ln kd S tn : Nat} (hb : b < 100) (hln : ln ≤ 6) (hkd : kd = 116 ∨ kd = 98 ∨ kd = 97) (hS : S < 64) (htn : tn < 156) (h18 : w 18 b = nI ln) (h5 : w 22 5 = nI S) (hr : ∀ p, p < ln → rd p < 6 ∧ f_Box_candidateAt (nI b) (nI p) w = some (nI (rd p))) :
    Ok (f_MachineCount_addBallot (nI b) (nI kd) (nI (tn * 6)) w) (fun x => x.1 = tI (anS S rd ln 0) ∧ (∀ c, c < 6 → x.2 24 (tn * 6 + c) = w 24 (tn * 6 + c) + giv kd (pcN S) S c rd ln 0 0) ∧ (∀ i, i ≠ 24 → x.2 i = w i) ∧ ∀ k, k < tn * 6 ∨ tn * 6 + 6 ≤ k → x.2 24 k = w 24 k) := by
  have h := fun l4 h1 h2 => f_addB (n := pcN S) (rd := rd) hb hln hkd hS htn ln 0 0 FU false l4 w (by omega) (by show _ < 100000; omega) h1 h2 (fun _ => rfl) h18 h5 hr
  unfold f_MachineCount_addBallot f_MachineCount_addBallot_b17
  simp only [qe_98 (show kd < 2147483648 by omega)]
  by_cases c : kd = 98
  · rw [if_pos c, h5, zb_bc S hS, bnd_eq]
    obtain ⟨r, e, w', g1, g2⟩ := h (nI (pcN S)) (fun _ => by rw [show nI 0 = (0 : Int32) from rfl, Int32.sub_zero]) (fun g => absurd c g)
    refine ⟨(tI (anS S rd ln 0), w'), ?_, rfl, g2⟩
    rw [show (0 : Int32) = tI false from rfl, show tI false = nI 0 from rfl] at *
    rw [e]; exact g1
  · rw [if_neg c]
    obtain ⟨r, e, w', g1, g2⟩ := h 1 (fun g => absurd g c) (fun _ => rfl)
    refine ⟨(tI (anS S rd ln 0), w'), ?_, rfl, g2⟩
    rw [show (0 : Int32) = tI false from rfl, show tI false = nI 0 from rfl] at *
    rw [e]; exact g1
/-- the gathered ballots -/
def GA (w : Wt) (l : List Nat) : Prop := w 13 10 = nI l.length ∧ (∀ j b, l[j]? = some b → w 21 j = nI b) ∧ l.length ≤ 100
theorem f_rows {rd : Nat → Nat → Nat} {ln : Nat → Nat} {kd S tn : Nat} {l : List Nat} (hkd : kd = 116 ∨ kd = 98 ∨ kd = 97) (hS : S < 64) (htn : tn < 156) : ∀ (rest pre : List Nat) fuel (wt : Nat) (w : Wt), l = pre ++ rest → rest.length < fuel → GA w l → BXc w rd ln l → w 22 5 = nI S →
    Ok (lp (f_MachineCount_makeTally_L47 (nI kd) (nI (tn * 6))) fuel (nI wt, nI pre.length, w)) (fun x => x.1 = nI (wt + wtL rd ln S rest) ∧ (∀ c, c < 6 → x.2 24 (tn * 6 + c) = w 24 (tn * 6 + c) + vtL rd ln kd S c rest) ∧ (∀ i, i ≠ 24 → x.2 i = w i) ∧ ∀ k, k < tn * 6 ∨ tn * 6 + 6 ≤ k → x.2 24 k = w 24 k) := by
  intro rest
  induction rest with
  | nil =>
    intro pre fuel wt w h1 h2 h3 h4 h5
    obtain ⟨fuel, rfl⟩ : ∃ f, fuel = f + 1 := ⟨fuel - 1, by omega⟩
    have hl : l.length = pre.length := by rw [h1, List.append_nil]
    have h9 := h3.2.2
    have e1 : w 13 10 ≤ nI pre.length := by rw [h3.1, nl_le (by omega) (by omega)]; omega
    unfold lp
    refine ⟨(nI wt, w), by simp only [f_MachineCount_makeTally_L47, e1, ↓reduceIte] <;> rfl, rfl, fun c hc => ?_, fun i _ => rfl, fun k _ => rfl⟩
    unfold vtL; rw [Int32.add_zero]
  | cons b rest ih =>
    intro pre fuel wt w h1 h2 h3 h4 h5
    obtain ⟨fuel, rfl⟩ : ∃ f, fuel = f + 1 := ⟨fuel - 1, by omega⟩
    rw [List.length_cons] at h2
    have hl : l.length = pre.length + (rest.length + 1) := by rw [h1, List.length_append, List.length_cons]
    have h9 := h3.2.2
    have e1 : ¬ w 13 10 ≤ nI pre.length := by rw [h3.1, nl_le (by omega) (by omega)]; omega
    have e2 : inb (nI pre.length) 100 = true := nl_in (by omega) (by omega)
    have e3 : (nI pre.length).toNatClampNeg = pre.length := nl_cl (by omega)
    have e4 : w 21 pre.length = nI b := h3.2.1 _ _ (by rw [h1, List.getElem?_append_right (Nat.le_refl _), Nat.sub_self]; rfl)
    have hbl : b ∈ l := by rw [h1]; exact List.mem_append_right _ List.mem_cons_self
    obtain ⟨b1, b2, b3, b4⟩ := h4 b hbl
    obtain ⟨⟨gv, w1⟩, ex, f1, f2, f3, f4⟩ := f_addBallot b1 b2 hkd hS htn b3 h5 b4
    dsimp only at f1 f2 f3 f4
    have hgv : gv = nI (if anS S (rd b) (ln b) 0 = true then 1 else 0) := by rw [f1]; cases anS S (rd b) (ln b) 0 <;> rfl
    obtain ⟨x, ex2, g1, g2, g3, g4⟩ := ih (pre ++ [b]) fuel (wt + (if anS S (rd b) (ln b) 0 = true then 1 else 0)) w1 (by rw [h1, List.append_assoc]; rfl) (by omega) ⟨by rw [f3 13 (by decide)]; exact h3.1, fun j b' hj => by rw [f3 21 (by decide)]; exact h3.2.1 j b' hj, h9⟩ (h4.kp (f3 18 (by decide)) (f3 19 (by decide)) (f3 20 (by decide))) (by rw [f3 22 (by decide)]; exact h5)
    unfold lp
    refine ⟨x, ?_, ?_, fun c hc => ?_, fun i hi => (g3 i hi).trans (f3 i hi), fun k hk => (g4 k hk).trans (f4 k hk)⟩
    · simp only [f_MachineCount_makeTally_L47, e1, e2, e3, e4, gd_t, ex, bnd_eq, nmd_eq, hgv, nI_add, nI_1, ↓reduceIte]
      rw [List.length_append] at ex2
      exact ex2
    · rw [g1, wtL_c, Nat.add_assoc]
    · rw [g2 c hc, f2 c hc, vtL_c, Int32.add_assoc]
/-- the machine's tallies -/
def MMt (w : Wt) (rd : Nat → Nat → Nat) (ln : Nat → Nat) (l : List Nat) (tn : Nat) (kd sd : Nat → Nat) : Prop := w 22 3 = nI tn ∧ ∀ t, t < tn → w 25 t = nI (sd t) ∧ w 26 t = nI (wtL rd ln (sd t) l) ∧ ∀ c, c < 6 → w 24 (t * 6 + c) = vtL rd ln (kd t) (sd t) c l
theorem f_tally_M {w : Wt} {rd : Nat → Nat → Nat} {ln : Nat → Nat} {l : List Nat} {tn k0 S : Nat} {kd sd : Nat → Nat} (hkd : k0 = 116 ∨ k0 = 98 ∨ k0 = 97) (hS : S < 64) (htn : tn < 156) (hM : MMt w rd ln l tn kd sd) (hG : GA w l) (hB : BXc w rd ln l) (h5 : w 22 5 = nI S) :
    Ok (f_MachineCount_makeTally (nI k0) w) (fun w' => MMt w' rd ln l (tn + 1) (fup kd tn k0) (fup sd tn S) ∧ (∀ i, i ≠ 22 → i ≠ 24 → i ≠ 25 → i ≠ 26 → w' i = w i) ∧ ∀ j, j ≠ 3 → w' 22 j = w 22 j) := by
  obtain ⟨h3, hM⟩ := hM
  have e1 : nI tn < (156 : Int32) := by rw [qc_156 (by omega)]; omega
  have e6 : nI tn * (6 : Int32) = nI (tn * 6) := pk_mul tn 6
  unfold f_MachineCount_makeTally
  rw [h3, if_pos e1, nmd_eq, e6]
  -- the row is emptied
  have key : Ok (lp (f_MachineCount_makeTally_L21 (nI k0) (nI (tn * 6))) FU ((0 : Int32), w)) (fun w1 => (∀ c, c < 6 → w1 24 (tn * 6 + c) = 0) ∧ (∀ i, i ≠ 24 → w1 i = w i) ∧ ∀ k, k < tn * 6 ∨ tn * 6 + 6 ≤ k → w1 24 k = w 24 k) := by
    refine Ok.count 6 (fun k z => z.1 = nI k ∧ (∀ c, c < k → z.2 24 (tn * 6 + c) = 0) ∧ (∀ i, i ≠ 24 → z.2 i = w i) ∧ ∀ k, k < tn * 6 ∨ tn * 6 + 6 ≤ k → z.2 24 k = w 24 k) (fun k z hk h => ?_) (fun z h => ?_) 6 FU 0 _ (by omega) (by show _ < 100000; omega) ⟨rfl, fun c hc => by omega, fun i _ => rfl, fun k _ => rfl⟩
    · obtain ⟨z1, z2⟩ := z
      obtain ⟨rfl, a1, a2, a3⟩ := h
      dsimp only at a1 a2 a3
      have d1 : ¬ (6 : Int32) ≤ nI k := by rw [qb_6 (by omega)]; omega
      have d2 : nI (tn * 6) + nI k = nI (tn * 6 + k) := nI_add _ _
      have d3 : inb (nI (tn * 6 + k)) 936 = true := nl_in (by omega) (by omega)
      have d4 : (nI (tn * 6 + k)).toNatClampNeg = tn * 6 + k := nl_cl (by omega)
      refine Ok.eq (a := .inl (nI k + 1, upd2 z2 24 (tn * 6 + k) 0)) (by simp only [f_MachineCount_makeTally_L21, d1, d2, d3, d4, gd_t, nmd_eq, ↓reduceIte]) (And.intro (nI_1 k) ⟨fun c hc => ?_, fun i hi => ?_, fun k2 hk2 => ?_⟩)
      · dsimp only; rw [upd2_at, if_pos rfl]
        by_cases g : c = k
        · rw [if_pos (by omega)]
        · rw [if_neg (by omega)]; exact a1 c (by omega)
      · dsimp only; rw [upd2_n hi]; exact a2 i hi
      · dsimp only; rw [upd2_at, if_pos rfl, if_neg (by omega)]; exact a3 k2 hk2
    · obtain ⟨z1, z2⟩ := z
      obtain ⟨rfl, a1, a2, a3⟩ := h
      have d1 : (6 : Int32) ≤ nI 6 := by decide
      exact Ok.eq (a := .inr z2) (by simp only [f_MachineCount_makeTally_L21, d1, ↓reduceIte]) ⟨a1, a2, a3⟩
  obtain ⟨w1, ew1, a1, a2, a3⟩ := key
  obtain ⟨⟨z, w2⟩, ew2, b1, b2, b3, b4⟩ := f_rows (tn := tn) (w := w1) (rd := rd) (ln := ln) (l := l) hkd hS htn l [] FU 0 rfl (by have := hG.2.2; show _ < 100000; omega) ⟨by rw [a2 13 (by decide)]; exact hG.1, fun j b hj => by rw [a2 21 (by decide)]; exact hG.2.1 j b hj, hG.2.2⟩ (hB.kp (a2 18 (by decide)) (a2 19 (by decide)) (a2 20 (by decide))) (by rw [a2 22 (by decide)]; exact h5)
  dsimp only at b1 b2 b3 b4
  have hw3 : w2 22 3 = nI tn := by rw [b3 22 (by decide), a2 22 (by decide)]; exact h3
  have hw5 : w2 22 5 = nI S := by rw [b3 22 (by decide), a2 22 (by decide)]; exact h5
  have d3 : inb (nI tn) 156 = true := nl_in (by omega) (by omega)
  have d4 : (nI tn).toNatClampNeg = tn := nl_cl (by omega)
  rw [ew1, bnd_eq]
  show Ok (Option.bind (lp (f_MachineCount_makeTally_L47 (nI k0) (nI (tn * 6))) FU ((0 : Int32), (0 : Int32), w1)) f_MachineCount_makeTally_x47) _
  rw [show ((0 : Int32), (0 : Int32), w1) = (nI 0, nI ([] : List Nat).length, w1) from rfl, ew2, bnd_eq]
  unfold f_MachineCount_makeTally_x47
  dsimp only
  unfold f_MachineCount_makeTally_b84
  have d5 : ∀ v, upd2 w2 25 tn v 22 = w2 22 := fun v => upd2_n (by decide)
  have d6 : ∀ v u, upd2 (upd2 w2 25 tn v) 26 tn u 22 = w2 22 := fun v u => by rw [upd2_n (by decide), upd2_n (by decide)]
  simp only [hw3, hw5, d3, d4, gd_t, nmd_eq, d5, d6, nI_1]
  refine ⟨_, rfl, ⟨?_, fun t ht => ⟨?_, ?_, fun c hc => ?_⟩⟩, fun i h1 h2 h4 h6 => ?_, fun j hj => ?_⟩
  · rw [upd2_at, if_pos rfl, if_pos rfl]
  · rw [upd2_n (by decide), upd2_n (by decide), upd2_at, if_pos rfl]
    unfold fup
    by_cases g : t = tn
    · rw [if_pos g, if_pos g]
    · rw [if_neg g, if_neg g, b3 25 (by decide), a2 25 (by decide)]; exact (hM t (by omega)).1
  · rw [upd2_n (by decide), upd2_at, if_pos rfl]
    unfold fup
    by_cases g : t = tn
    · rw [if_pos g, if_pos g, b1, Nat.zero_add]
    · rw [if_neg g, if_neg g, upd2_n (by decide), b3 26 (by decide), a2 26 (by decide)]; exact (hM t (by omega)).2.1
  · rw [upd2_n (by decide), upd2_n (by decide), upd2_n (by decide)]
    unfold fup
    by_cases g : t = tn
    · rw [if_pos g, if_pos g, g, b2 c hc, a1 c hc, Int32.zero_add]
    · rw [if_neg g, if_neg g, b4 _ (by omega), a3 _ (by omega)]; exact (hM t (by omega)).2.2 c hc
  · rw [upd2_n h1, upd2_n h6, upd2_n h4, b3 i h2, a2 i h2]
  · rw [upd2_at, if_pos rfl, if_neg hj, upd2_n (by decide), upd2_n (by decide), b3 22 (by decide), a2 22 (by decide)]
/-! by hand -/
def HHt (w : Wt) (tn : Nat) (kd sd : Nat → Nat) : Prop := w 28 3 = nI tn ∧ ∀ t, t < tn → w 30 t = nI (kd t) ∧ w 31 t = nI (sd t)
theorem f_tally_H {w : Wt} {tn k0 S : Nat} {kd sd : Nat → Nat} (hkd : k0 < 65536) (htn : tn < 156) (hM : HHt w tn kd sd) (h5 : w 28 5 = nI S) :
    Ok (f_HandCount_makeTally (nI k0) w) (fun w' => HHt w' (tn + 1) (fup kd tn k0) (fup sd tn S) ∧ (∀ i, i ≠ 28 → i ≠ 30 → i ≠ 31 → w' i = w i) ∧ ∀ j, j ≠ 3 → w' 28 j = w 28 j) := by
  obtain ⟨h3, hM⟩ := hM
  have e1 : ¬ (156 : Int32) ≤ nI tn := by rw [qb_156 (by omega)]; omega
  have d3 : inb (nI tn) 156 = true := nl_in (by omega) (by omega)
  have d4 : (nI tn).toNatClampNeg = tn := nl_cl (by omega)
  have d5 : ∀ v, upd2 w 30 tn v 28 = w 28 := fun v => upd2_n (by decide)
  have d6 : ∀ v u, upd2 (upd2 w 30 tn v) 31 tn u 28 = w 28 := fun v u => by rw [upd2_n (by decide), upd2_n (by decide)]
  unfold f_HandCount_makeTally
  simp only [h3, e1, d3, d4, gd_t, nmd_eq, d5, d6, nI_1, h5, nar_c hkd, ↓reduceIte]
  refine ⟨_, rfl, ⟨?_, fun t ht => ⟨?_, ?_⟩⟩, fun i h1 h2 h4 => ?_, fun j hj => ?_⟩
  · rw [upd2_at, if_pos rfl, if_pos rfl]
  · rw [upd2_n (by decide), upd2_n (by decide), upd2_at, if_pos rfl]
    unfold fup
    by_cases g : t = tn
    · rw [if_pos g, if_pos g]
    · rw [if_neg g, if_neg g]; exact (hM t (by omega)).1
  · rw [upd2_n (by decide), upd2_at, if_pos rfl]
    unfold fup
    by_cases g : t = tn
    · rw [if_pos g, if_pos g]
    · rw [if_neg g, if_neg g, upd2_n (by decide)]; exact (hM t (by omega)).2
  · rw [upd2_n h1, upd2_n h4, upd2_n h2]
  · rw [upd2_at, if_pos rfl, if_neg hj, upd2_n (by decide), upd2_n (by decide)]
theorem f_given {w : Wt} {rd : Nat → Nat} {b ln kd S t c : Nat} (hb : b < 100) (hln : ln ≤ 6) (hkd : kd = 116 ∨ kd = 98 ∨ kd = 97) (hS : S < 64) (ht : t < 156) (hc : c < 6) (hcS : hs S c = true) (h18 : w 18 b = nI ln) (h30 : w 30 t = nI kd) (h31 : w 31 t = nI S) (hr : ∀ p, p < ln → rd p < 6 ∧ f_Box_candidateAt (nI b) (nI p) w = some (nI (rd p))) (hd : ∀ p q, p < ln → q < ln → p ≠ q → rd p ≠ rd q) :
    ∀ d p a fuel, p + d = ln → d < fuel → a ≤ p → Ok (lp (f_HandCount_givenBy_L6 (nI b) (nI t) (nI c) w) fuel (nI a, nI p)) (fun r => f_HandCount_givenBy_x6 w r = some (giv kd (pcN S) S c rd d p a)) := by
  intro d
  have e4 : inb (nI b) 100 = true := nl_in (by omega) (by omega)
  have e5 : (nI b).toNatClampNeg = b := nl_cl (by omega)
  have e6 : inb (nI t) 156 = true := nl_in (by omega) (by omega)
  have e7 : (nI t).toNatClampNeg = t := nl_cl (by omega)
  induction d with
  | zero =>
    intro p a fuel h1 h2 h3
    obtain ⟨fuel, rfl⟩ : ∃ f, fuel = f + 1 := ⟨fuel - 1, by omega⟩
    have e1 : w 18 b ≤ nI p := by rw [h18, nl_le (by omega) (by omega)]; omega
    unfold lp
    refine ⟨.inl (), by simp only [f_HandCount_givenBy_L6, e4, e5, gd_t, e1, ↓reduceIte] <;> rfl, rfl⟩
  | succ d ih =>
    intro p a fuel h1 h2 h3
    obtain ⟨fuel, rfl⟩ : ∃ f, fuel = f + 1 := ⟨fuel - 1, by omega⟩
    have e1 : ¬ w 18 b ≤ nI p := by rw [h18, nl_le (by omega) (by omega)]; omega
    obtain ⟨hr6, hcd⟩ := hr p (by omega)
    have e8 : (nI (rd p) = nI c) = (rd p = c) := nl_eq (by omega) (by omega)
    unfold lp
    by_cases g : rd p = c
    · have hz : giv kd (pcN S) S c rd d (p + 1) (a + 1) = 0 := giv_0 _ _ _ (fun q q1 q2 e => hd p q (by omega) (by omega) (by omega) (by rw [g, e]))
      refine ⟨.inr (val kd (pcN S) a), ?_, ?_⟩
      · simp only [f_HandCount_givenBy_L6, e4, e5, e6, e7, gd_t, e1, hcd, bnd_eq, e8, g, h30, h31, zb_bc S hS, qe_98 (show kd < 2147483648 by omega), qe_97 (show kd < 2147483648 by omega), qe_0 (show a < 2147483648 by omega), ↓reduceIte]
        unfold val
        by_cases c1 : kd = 98
        · simp only [c1, ↓reduceIte] <;> rfl
        · by_cases c2 : kd = 97
          · simp only [c2, ↓reduceIte, show ¬ (97 : Nat) = 98 from by decide] <;> rfl
          · by_cases c3 : a = 0
            · simp only [c1, c2, c3, ↓reduceIte] <;> rfl
            · simp only [c1, c2, c3, ↓reduceIte] <;> rfl
      · unfold giv
        rw [g, if_pos hcS, if_pos rfl, hz, Int32.add_zero]; rfl
    · cases hh : hs S (rd p) with
      | false =>
        obtain ⟨r, er, hx⟩ := ih (p + 1) a fuel (by omega) (by omega) (by omega)
        refine ⟨r, ?_, ?_⟩
        · simp only [f_HandCount_givenBy_L6, e4, e5, e6, e7, gd_t, e1, hcd, bnd_eq, e8, g, h31, zb_has S hS _ hr6, hh, tI0, nmd_eq, nI_1, Int32.add_zero, ↓reduceIte]
          exact er
        · unfold giv; rw [hh, if_neg (by decide)]; exact hx
      | true =>
        obtain ⟨r, er, hx⟩ := ih (p + 1) (a + 1) fuel (by omega) (by omega) (by omega)
        refine ⟨r, ?_, ?_⟩
        · simp only [f_HandCount_givenBy_L6, e4, e5, e6, e7, gd_t, e1, hcd, bnd_eq, e8, g, h31, zb_has S hS _ hr6, hh, tI0, nmd_eq, nI_1, ↓reduceIte, Bool.true_eq_false]
          exact er
        · unfold giv; rw [hh, if_pos rfl, if_neg g, Int32.zero_add]; exact hx
theorem f_gave {w : Wt} {rd : Nat → Nat} {b ln S t : Nat} (hb : b < 100) (hln : ln ≤ 6) (hS : S < 64) (ht : t < 156) (h18 : w 18 b = nI ln) (h31 : w 31 t = nI S) (hr : ∀ p, p < ln → rd p < 6 ∧ f_Box_candidateAt (nI b) (nI p) w = some (nI (rd p))) :
    ∀ d p fuel, p + d = ln → d < fuel → Ok (lp (f_HandCount_gaveSomething_L2 (nI b) (nI t) w) fuel (nI p)) (fun r => f_HandCount_gaveSomething_x2 w r = some (tI (anS S rd d p))) := by
  intro d
  have e4 : inb (nI b) 100 = true := nl_in (by omega) (by omega)
  have e5 : (nI b).toNatClampNeg = b := nl_cl (by omega)
  have e6 : inb (nI t) 156 = true := nl_in (by omega) (by omega)
  have e7 : (nI t).toNatClampNeg = t := nl_cl (by omega)
  induction d with
  | zero =>
    intro p fuel h1 h2
    obtain ⟨fuel, rfl⟩ : ∃ f, fuel = f + 1 := ⟨fuel - 1, by omega⟩
    have e1 : w 18 b ≤ nI p := by rw [h18, nl_le (by omega) (by omega)]; omega
    unfold lp
    refine ⟨.inl (), by simp only [f_HandCount_gaveSomething_L2, e4, e5, gd_t, e1, ↓reduceIte] <;> rfl, rfl⟩
  | succ d ih =>
    intro p fuel h1 h2
    obtain ⟨fuel, rfl⟩ : ∃ f, fuel = f + 1 := ⟨fuel - 1, by omega⟩
    have e1 : ¬ w 18 b ≤ nI p := by rw [h18, nl_le (by omega) (by omega)]; omega
    obtain ⟨hr6, hcd⟩ := hr p (by omega)
    unfold lp
    cases hh : hs S (rd p) with
    | false =>
      obtain ⟨r, er, hx⟩ := ih (p + 1) fuel (by omega) (by omega)
      refine ⟨r, ?_, ?_⟩
      · simp only [f_HandCount_gaveSomething_L2, e4, e5, e6, e7, gd_t, e1, hcd, bnd_eq, h31, zb_has S hS _ hr6, hh, tI0, nI_1, ↓reduceIte]
        exact er
      · unfold anS; rw [hh, Bool.false_or]; exact hx
    | true =>
      refine ⟨.inr 1, ?_, ?_⟩
      · simp only [f_HandCount_gaveSomething_L2, e4, e5, e6, e7, gd_t, e1, hcd, bnd_eq, h31, zb_has S hS _ hr6, hh, tI0, nI_1, ↓reduceIte, Bool.true_eq_false] <;> rfl
      · unfold anS; rw [hh, Bool.true_or]; rfl
theorem f_votes_H {w : Wt} {rd : Nat → Nat → Nat} {ln : Nat → Nat} {l : List Nat} {kd S t c : Nat} (hkd : kd = 116 ∨ kd = 98 ∨ kd = 97) (hS : S < 64) (ht : t < 156) (hc : c < 6) (hcS : hs S c = true) (hG : GA w l) (hB : BXc w rd ln l) (h30 : w 30 t = nI kd) (h31 : w 31 t = nI S) (hd : ∀ b, b ∈ l → ∀ p q, p < ln b → q < ln b → p ≠ q → rd b p ≠ rd b q) : f_HandCount_votesIn (nI t) (nI c) w = some (vtL rd ln kd S c l) := by
  have key : ∀ (rest pre : List Nat) fuel (s : Int32), l = pre ++ rest → rest.length < fuel → lp (f_HandCount_votesIn_L11 (nI t) (nI c) w) fuel (s, nI pre.length) = some (s + vtL rd ln kd S c rest) := by
    intro rest
    induction rest with
    | nil =>
      intro pre fuel s h1 h2
      obtain ⟨fuel, rfl⟩ : ∃ f, fuel = f + 1 := ⟨fuel - 1, by omega⟩
      have hl : l.length = pre.length := by rw [h1, List.append_nil]
      have h9 := hG.2.2
      have e1 : w 13 10 ≤ nI pre.length := by rw [hG.1, nl_le (by omega) (by omega)]; omega
      unfold lp vtL
      simp only [f_HandCount_votesIn_L11, e1, ↓reduceIte, Int32.add_zero] <;> rfl
    | cons b rest ih =>
      intro pre fuel s h1 h2
      obtain ⟨fuel, rfl⟩ : ∃ f, fuel = f + 1 := ⟨fuel - 1, by omega⟩
      rw [List.length_cons] at h2
      have hl : l.length = pre.length + (rest.length + 1) := by rw [h1, List.length_append, List.length_cons]
      have h9 := hG.2.2
      have e1 : ¬ w 13 10 ≤ nI pre.length := by rw [hG.1, nl_le (by omega) (by omega)]; omega
      have e2 : inb (nI pre.length) 100 = true := nl_in (by omega) (by omega)
      have e3 : (nI pre.length).toNatClampNeg = pre.length := nl_cl (by omega)
      have e4 : w 21 pre.length = nI b := hG.2.1 _ _ (by rw [h1, List.getElem?_append_right (Nat.le_refl _), Nat.sub_self]; rfl)
      have hbl : b ∈ l := by rw [h1]; exact List.mem_append_right _ List.mem_cons_self
      obtain ⟨b1, b2, b3, b4⟩ := hB b hbl
      obtain ⟨r, er, hx⟩ := f_given b1 b2 hkd hS ht hc hcS b3 h30 h31 b4 (hd b hbl) (ln b) 0 0 FU (by omega) (by show _ < 100000; omega) (by omega)
      have hgb : f_HandCount_givenBy (nI b) (nI t) (nI c) w = some (giv kd (pcN S) S c (rd b) (ln b) 0 0) := by
        unfold f_HandCount_givenBy
        rw [show ((0 : Int32), (0 : Int32)) = (nI 0, nI 0) from rfl, er]; exact hx
      have := ih (pre ++ [b]) fuel (s + giv kd (pcN S) S c (rd b) (ln b) 0 0) (by rw [h1, List.append_assoc]; rfl) (by omega)
      rw [List.length_append] at this
      rw [vtL_c]
      unfold lp
      simp only [f_HandCount_votesIn_L11, e1, e2, e3, e4, gd_t, hgb, bnd_eq, nmd_eq, nI_1, ↓reduceIte]
      rw [← Int32.add_assoc]
      exact this
  have h0 : (0 : Int32) ≤ nI t := by rw [qb_0 (by omega)]; omega
  unfold f_HandCount_votesIn
  rw [if_pos h0]
  rw [show ((0 : Int32), (0 : Int32)) = ((0 : Int32), nI ([] : List Nat).length) from rfl, key l [] FU 0 rfl (by have := hG.2.2; show _ < 100000; omega), bnd_eq, Int32.zero_add]
  rfl

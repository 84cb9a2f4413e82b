/-! THE PURE PART: what the models answer. A calculus for partial functions, and small numbers. -/
def Ok {α : Type} (o : Option α) (P : α → Prop) : Prop := ∃ a, o = some a ∧ P a
section OKS
variable {α β σ ρ : Type} {P Q : α → Prop}
theorem Ok.ret {a : α} (h : P a) : Ok (some a) P := ⟨a, rfl, h⟩
theorem Ok.eq {o : Option α} {a : α} (e : o = some a) (h : P a) : Ok o P := ⟨a, e, h⟩
theorem Ok.mono {o : Option α} (h : Ok o P) (k : ∀ a, P a → Q a) : Ok o Q := by
  obtain ⟨a, e, p⟩ := h
  exact ⟨a, e, k a p⟩
theorem Ok.bind {o : Option β} {f : β → Option α} (h : Ok o (fun x => Ok (f x) P)) : Ok (Option.bind o f) P := by
  obtain ⟨b, e, a, e2, p⟩ := h
  exact ⟨a, by rw [e]; exact e2, p⟩
theorem Ok.bindE {o : Option β} {f : β → Option α} {b : β} (e : o = some b) (h : Ok (f b) P) : Ok (Option.bind o f) P := by
  rw [e]; exact h
theorem Ok.gdd {b : Bool} {o : Option α} (hb : b = true) (h : Ok o P) : Ok (gd b o) P := by
  unfold gd
  rw [if_pos hb]; exact h
theorem Ok.nmdd {a : β} {f : β → Option α} (h : Ok (f a) P) : Ok (nmd a f) P := h
theorem Ok.ite {c : Prop} [Decidable c] {a b : Option α} (h1 : c → Ok a P) (h2 : ¬ c → Ok b P) : Ok (if c then a else b) P := by
  by_cases h : c
  · rw [if_pos h]; exact h1 h
  · rw [if_neg h]; exact h2 h
theorem Ok.pos {c : Prop} [Decidable c] {a b : Option α} (h : c) (h1 : Ok a P) : Ok (if c then a else b) P := by
  rw [if_pos h]; exact h1
theorem Ok.neg {c : Prop} [Decidable c] {a b : Option α} (h : ¬ c) (h1 : Ok b P) : Ok (if c then a else b) P := by
  rw [if_neg h]; exact h1
theorem Ok.get {o : Option α} (h : Ok o P) : ∃ a, o = some a ∧ P a := h
theorem Ok.lpm {b : σ → Option (σ ⊕ α)} (I : σ → Prop) (μ : σ → Nat) (hb : ∀ s, I s → Ok (b s) (fun x => match x with | .inl s' => I s' ∧ μ s' < μ s | .inr r => P r)) : ∀ (n : Nat) (s : σ), I s → μ s < n → Ok (lp b n s) P := by
  intro n
  induction n with
  | zero => intro s _ h; omega
  | succ n ih =>
    intro s hs hm
    obtain ⟨x, e, px⟩ := hb s hs
    unfold lp
    rw [e]
    cases x with
    | inl s' => exact ih s' px.1 (by have := px.2; omega)
    | inr r => exact ⟨r, rfl, px⟩
/-- a loop that counts: at k = N it goes out -/
theorem Ok.count {b : σ → Option (σ ⊕ α)} (N : Nat) (I : Nat → σ → Prop) (hb : ∀ k s, k < N → I k s → Ok (b s) (fun x => match x with | .inl s' => I (k + 1) s' | .inr r => P r)) (he : ∀ s, I N s → Ok (b s) (fun x => match x with | .inl _ => False | .inr r => P r)) : ∀ (d n k : Nat) (s : σ), k + d = N → d < n → I k s → Ok (lp b n s) P := by
  intro d
  induction d with
  | zero =>
    intro n k s hk hn hI
    obtain ⟨n, rfl⟩ : ∃ n', n = n' + 1 := ⟨n - 1, by omega⟩
    have e : k = N := by omega
    subst e
    obtain ⟨x, e, px⟩ := he s hI
    unfold lp
    rw [e]
    cases x with
    | inl s' => exact px.elim
    | inr r => exact ⟨r, rfl, px⟩
  | succ d ih =>
    intro n k s hk hn hI
    obtain ⟨n, rfl⟩ : ∃ n', n = n' + 1 := ⟨n - 1, by omega⟩
    obtain ⟨x, e, px⟩ := hb k s (by omega) hI
    unfold lp
    rw [e]
    cases x with
    | inl s' => exact ih n (k + 1) s' (by omega) (by omega) px
    | inr r => exact ⟨r, rfl, px⟩
theorem Ok.eqn {o : Option α} {a : α} (h : Ok o (fun x => x = a)) : o = some a := by
  obtain ⟨x, e, rfl⟩ := h
  exact e
end OKS
/-! small numbers -/
theorem nl_le {a b : Nat} (ha : a < 2147483648) (hb : b < 2147483648) : (nI a ≤ nI b) = (a ≤ b) := propext (nI_leI ha hb)
theorem nl_lt {a b : Nat} (ha : a < 2147483648) (hb : b < 2147483648) : (nI a < nI b) = (a < b) := propext (nI_ltI ha hb)
theorem nl_eq {a b : Nat} (ha : a < 2147483648) (hb : b < 2147483648) : (nI a = nI b) = (a = b) := propext (nI_eq ha hb)
theorem nl_add (a b : Nat) : nI a + nI b = nI (a + b) := nI_add a b
theorem nl_sub {a b : Nat} (h : b ≤ a) : nI a - nI b = nI (a - b) := by
  have e : nI a = nI (a - b) + nI b := by rw [nI_add]; congr 1; omega
  rw [e, Int32.add_sub_cancel]
theorem nl_mul (a b : Nat) : nI a * nI b = nI (a * b) := (Int32.ofNat_mul a b).symm
theorem nl_in {a n : Nat} (h : a < n) (hn : n < 2147483648) : inb (nI a) n = true := by
  have := nI_toInt (n := a) (by omega)
  unfold inb
  rw [this]
  exact decide_eq_true ⟨by omega, by omega⟩
theorem nl_cl {a : Nat} (h : a < 2147483648) : (nI a).toNatClampNeg = a := nI_clamp h
theorem nl_of {x : Int32} (h : 0 ≤ x) : ∃ n, n < 2147483648 ∧ x = nI n := nI_of (fun h2 => by
  have h1 := Int32.le_iff_toInt_le.mp h
  have h3 := Int32.lt_iff_toInt_lt.mp h2
  omega)
theorem nl_neg {n : Nat} (h : n < 2147483648) : ¬ nI n < 0 := nI_pos h
theorem l0 : (0 : Int32) = nI 0 := rfl
theorem l1 : (1 : Int32) = nI 1 := rfl
theorem l2 : (2 : Int32) = nI 2 := rfl
theorem l3 : (3 : Int32) = nI 3 := rfl
theorem l5 : (5 : Int32) = nI 5 := rfl
theorem l6 : (6 : Int32) = nI 6 := rfl
theorem l8 : (8 : Int32) = nI 8 := rfl
theorem l10 : (10 : Int32) = nI 10 := rfl
theorem l19 : (19 : Int32) = nI 19 := rfl
theorem l20 : (20 : Int32) = nI 20 := rfl
theorem l24 : (24 : Int32) = nI 24 := rfl
theorem l60 : (60 : Int32) = nI 60 := rfl
theorem l100 : (100 : Int32) = nI 100 := rfl
theorem l156 : (156 : Int32) = nI 156 := rfl
theorem l1000 : (1000 : Int32) = nI 1000 := rfl
theorem l10000 : (10000 : Int32) = nI 10000 := rfl
theorem ile {a b : Int32} : (a ≤ b) = (a.toInt ≤ b.toInt) := propext Int32.le_iff_toInt_le
theorem ilt {a b : Int32} : (a < b) = (a.toInt < b.toInt) := propext Int32.lt_iff_toInt_lt
theorem ieq {a b : Int32} : (a = b) = (a.toInt = b.toInt) := propext Int32.toInt_inj.symm
/-- a number within small bounds is a small number -/
theorem nl_mk {x : Int32} {n : Nat} (hn : n < 2147483648) (h0 : ¬ x < 0) (h1 : x < nI n) : ∃ k, k < n ∧ x = nI k := by
  rw [ilt] at h0
  rw [ilt, nI_toInt hn] at h1
  have h2 : (0 : Int32).toInt = 0 := rfl
  obtain ⟨k, hk, e⟩ := nl_of (x := x) (by rw [ile]; omega)
  subst e
  rw [nI_toInt hk] at h1
  exact ⟨k, by omega, rfl⟩
theorem upd2_at {w : Wt} {i k a b : Nat} {v : Int32} : upd2 w i k v a b = if a = i then (if b = k then v else w a b) else w a b := by
  unfold upd2
  by_cases h : a = i
  · subst h
    rw [if_pos rfl, if_pos rfl]
    rfl
  · rw [if_neg h, if_neg h]
theorem nmd_eq {α β : Type} {a : α} {f : α → Option β} : nmd a f = f a := rfl
theorem gd_eq {α : Type} {b : Bool} {o : Option α} (h : b = true) : gd b o = o := if_pos h
theorem bnd_eq {α β : Type} {a : α} {f : α → Option β} : Option.bind (some a) f = f a := rfl
/-- a truth as a number -/
def tI (b : Bool) : Int32 := if b then 1 else 0
theorem tI_t : tI true = 1 := rfl
theorem tI_f : tI false = 0 := rfl
theorem tI0 {b : Bool} : (tI b = 0) = (b = false) := by cases b <;> decide
theorem tI_bob (b : Bool) : bob (tI b) = true := by cases b <;> decide
/-! within, below, what is thrown -/
def wthn (a l h : Int32) : Bool := decide (¬ a < l) && decide (¬ h < a)
theorem f_within (a l h : Int32) : f_Ballotscript_isWithin a l h = some (tI (wthn a l h)) := by
  unfold f_Ballotscript_isWithin wthn
  by_cases h1 : a < l
  · rw [if_pos h1, decide_eq_false (by simpa using h1)]; rfl
  · rw [if_neg h1, decide_eq_true h1]
    by_cases h2 : h < a
    · rw [if_pos h2, decide_eq_false (by simpa using h2)]; rfl
    · rw [if_neg h2, decide_eq_true h2]; rfl
theorem m_within (a l h : Int32) : m_isWithin a l h = some (tI (wthn a l h)) := f_within a l h
def blw (a n : Int32) : Bool := decide (¬ a < 0) && decide (¬ n ≤ a)
theorem m_below (a n : Int32) : m_isBelow a n = some (tI (blw a n)) := by
  unfold m_isBelow blw
  by_cases h1 : a < 0
  · rw [if_pos h1, decide_eq_false (by simpa using h1)]; rfl
  · rw [if_neg h1, decide_eq_true h1]
    by_cases h2 : n ≤ a
    · rw [if_pos h2, decide_eq_false (by simpa using h2)]; rfl
    · rw [if_neg h2, decide_eq_true h2]; rfl
/-- below n is within 0 and n - 1 -/
theorem blw_within (a : Int32) (n : Nat) (hn : n < 2147483648) : wthn a 0 (nI n - 1) = blw a (nI n) := by
  unfold wthn blw
  congr 1
  rw [decide_eq_decide]
  cases n with
  | zero =>
    by_cases h : nI 0 ≤ a
    · have e : (nI 0 - 1 : Int32) = -1 := by decide
      rw [e, ilt]
      rw [ile] at h
      have h1 : (nI 0).toInt = 0 := rfl
      have h2 : (-1 : Int32).toInt = -1 := rfl
      rw [ile]
      omega
    · have e : (nI 0 - 1 : Int32) = -1 := by decide
      rw [e, ilt]
      rw [ile] at h ⊢
      have h1 : (nI 0).toInt = 0 := rfl
      have h2 : (-1 : Int32).toInt = -1 := rfl
      omega
  | succ n =>
    rw [nI_pred, ilt, ile, nI_toInt (by omega), nI_toInt (by omega)]
    omega
theorem blw_of {a : Int32} {n : Nat} (hn : n < 2147483648) (h : blw a (nI n) = true) : ∃ k, k < n ∧ a = nI k := by
  unfold blw at h
  rw [Bool.and_eq_true, decide_eq_true_eq, decide_eq_true_eq] at h
  refine nl_mk hn h.1 ?_
  have h2 := h.2
  rw [ile] at h2
  rw [ilt]
  omega
theorem blw_nI {k n : Nat} (hk : k < 2147483648) (hn : n < 2147483648) : blw (nI k) (nI n) = decide (k < n) := by
  unfold blw
  rw [decide_eq_true (nl_neg hk), Bool.true_and, decide_eq_decide, nl_le hn hk]
  omega
def thrN (a b c : Bool) : Int32 := if a then if b then if c then 0 else 3 else 2 else 1
theorem m_goes_eq (a b c : Bool) (w : Wt) : m_goes (tI a) (tI b) (tI c) w = some (tI (a && b && c), upd2 w 0 45 (thrN a b c)) := by
  unfold m_goes m_goes_b26
  cases a <;> cases b <;> cases c <;> simp [tI, thrN, nmd_eq, upd2_at]
theorem nar_b0 : vp_nar .boolean (0 : Int32) = 0 := by decide +kernel
theorem nar_b1 : vp_nar .boolean (1 : Int32) = 1 := by decide +kernel
theorem nar_ch {x : Int32} (h : chb x = true) : vp_nar .char x = x := by
  unfold vp_nar
  rw [(ch_of h).1]

/-! SETS of six, as numbers below 64; counts and searches -/
theorem gd_t {α : Type} {o : Option α} : gd true o = o := rfl
def hs (s k : Nat) : Bool := decide (s / 2 ^ k % 2 = 1)
def pcN (s : Nat) : Nat := s % 2 + s / 2 % 2 + s / 4 % 2 + s / 8 % 2 + s / 16 % 2 + s / 32 % 2
def loN (s : Nat) : Nat := if s % 2 = 1 then 0 else if s / 2 % 2 = 1 then 1 else if s / 4 % 2 = 1 then 2 else if s / 8 % 2 = 1 then 3 else if s / 16 % 2 = 1 then 4 else if s / 32 % 2 = 1 then 5 else 0
def hiN (s : Nat) : Nat := if s / 32 % 2 = 1 then 5 else if s / 16 % 2 = 1 then 4 else if s / 8 % 2 = 1 then 3 else if s / 4 % 2 = 1 then 2 else if s / 2 % 2 = 1 then 1 else 0
def rmv (s k : Nat) : Nat := if hs s k then s - 2 ^ k else s
def adb (s k : Nat) : Nat := if hs s k then s else s + 2 ^ k
def sub (t s : Nat) : Prop := ∀ k, k < 6 → hs t k = true → hs s k = true
theorem zb_has : ∀ s, s < 64 → ∀ k, k < 6 → f_Count_hasBit (nI s) (nI k) = some (tI (hs s k)) := by decide +kernel
theorem zb_mhas : ∀ s, s < 64 → ∀ k, k < 6 → m_has (nI s) (nI k) = some (tI (hs s k)) := by decide +kernel
theorem zb_bc : ∀ s, s < 64 → f_Integer_bitCount (nI s) = some (nI (pcN s)) := by decide +kernel
theorem zb_size : ∀ s, s < 64 → m_size (nI s) = some (nI (pcN s)) := by decide +kernel
theorem zb_low : ∀ s, s < 64 → f_Count_lowest (nI s) = some (nI (loN s)) := by decide +kernel
theorem zb_high : ∀ s, s < 64 → f_Count_highest (nI s) = some (nI (hiN s)) := by decide +kernel
theorem zb_rmv : ∀ s, s < 64 → ∀ k, k < 6 → (nI s) &&& (((1 : Int32) <<< (nI k &&& 31)) ^^^ (-1 : Int32)) = nI (rmv s k) := by decide +kernel
theorem zb_adb : ∀ s, s < 64 → ∀ k, k < 6 → (nI s) ||| ((1 : Int32) <<< (nI k &&& 31)) = nI (adb s k) := by decide +kernel
theorem zb_one : ∀ k, k < 6 → (1 : Int32) <<< (nI k &&& 31) = nI (2 ^ k) := by decide +kernel
theorem zb_full : ∀ c, c < 7 → ((1 : Int32) <<< (nI c &&& 31)) - (1 : Int32) = nI (2 ^ c - 1) := by decide +kernel
theorem zb_fullN : ∀ c, c < 7 → 2 ^ c - 1 < 64 ∧ pcN (2 ^ c - 1) = c := by decide +kernel
theorem zb_fullH : ∀ c, c < 7 → ∀ k, k < 6 → hs (2 ^ c - 1) k = decide (k < c) := by decide +kernel
theorem zb_rlt : ∀ s, s < 64 → ∀ k, k < 6 → rmv s k < 64 := by decide +kernel
theorem zb_alt : ∀ s, s < 64 → ∀ k, k < 6 → adb s k < 64 := by decide +kernel
theorem zb_rpc : ∀ s, s < 64 → ∀ k, k < 6 → hs s k = true → pcN (rmv s k) + 1 = pcN s := by decide +kernel
theorem zb_pc6 : ∀ s, s < 64 → pcN s ≤ 6 := by decide +kernel
theorem zb_pc0 : ∀ s, s < 64 → (pcN s = 0 ↔ s = 0) := by decide +kernel
theorem zb_lo : ∀ s, s < 64 → s ≠ 0 → hs s (loN s) = true := by decide +kernel
theorem zb_hi : ∀ s, s < 64 → s ≠ 0 → hs s (hiN s) = true := by decide +kernel
theorem zb_lo6 : ∀ s, s < 64 → loN s < 6 := by decide +kernel
theorem zb_hi6 : ∀ s, s < 64 → hiN s < 6 := by decide +kernel
theorem zb_hsr : ∀ s, s < 64 → ∀ c, c < 6 → ∀ k, k < 6 → (hs (rmv s c) k = true ↔ hs s k = true ∧ k ≠ c) := by decide +kernel
theorem zb_hsa : ∀ s, s < 64 → ∀ c, c < 6 → ∀ k, k < 6 → (hs (adb s c) k = true ↔ hs s k = true ∨ k = c) := by decide +kernel
theorem zb_hs2 : ∀ c, c < 6 → ∀ k, k < 6 → (hs (2 ^ c) k = true ↔ k = c) := by decide +kernel
theorem zb_2lt : ∀ c, c < 6 → 2 ^ c < 64 ∧ 2 ^ c ≠ 0 := by decide +kernel
theorem zb_ane : ∀ s, s < 64 → ∀ c, c < 6 → adb s c ≠ 0 := by decide +kernel
theorem zb_hs0 : ∀ k, k < 6 → hs 0 k = false := by decide +kernel
theorem zb_ne0 : ∀ s, s < 64 → ∀ k, k < 6 → hs s k = true → s ≠ 0 := by decide +kernel
theorem sub_rfl {s : Nat} : sub s s := fun _ _ h => h
theorem sub_tr {a b c : Nat} (h : sub a b) (g : sub b c) : sub a c := fun k hk e => g k hk (h k hk e)
theorem sub_rmv {s c : Nat} (hs' : s < 64) (hc : c < 6) : sub (rmv s c) s := fun k hk e => ((zb_hsr s hs' c hc k hk).mp e).1
/-- subsets with as many are the same -/
theorem zb_ext : ∀ s, s < 64 → ∀ t, t < 64 → (∀ k, k < 6 → hs t k = hs s k) → t = s := by decide +kernel
def anyB (p : Nat → Bool) : Nat → Bool
  | 0 => false
  | n + 1 => anyB p n || p n
theorem anyB_t {p : Nat → Bool} {n k : Nat} (hk : k < n) (h : p k = true) : anyB p n = true := by
  induction n with
  | zero => omega
  | succ n ih =>
    unfold anyB
    by_cases e : k = n
    · subst e; rw [h, Bool.or_true]
    · rw [ih (by omega), Bool.true_or]
theorem anyB_0 {p : Nat → Bool} {n : Nat} (h : ∀ k, k < n → p k = false) : anyB p n = false := by
  induction n with
  | zero => rfl
  | succ n ih =>
    unfold anyB
    rw [ih (fun k hk => h k (by omega)), h n (by omega)]
    rfl
theorem anyB_s {p : Nat → Bool} {n : Nat} (h : anyB p n = false) (g : p n = false) : anyB p (n + 1) = false := by
  unfold anyB; rw [h, g]; rfl
theorem anyB_c {p q : Nat → Bool} {n : Nat} (h : ∀ k, k < n → p k = q k) : anyB p n = anyB q n := by
  induction n with
  | zero => rfl
  | succ n ih =>
    unfold anyB
    rw [ih (fun k hk => h k (by omega)), h n (by omega)]
def cntS (p : Nat → Bool) : Nat → Nat
  | 0 => 0
  | n + 1 => cntS p n + (if p n then 1 else 0)
theorem cntS_le {p : Nat → Bool} {n : Nat} : cntS p n ≤ n := by
  induction n with
  | zero => exact Nat.le_refl 0
  | succ n ih => unfold cntS; split <;> omega
theorem cntS_c {p q : Nat → Bool} {n : Nat} (h : ∀ k, k < n → p k = q k) : cntS p n = cntS q n := by
  induction n with
  | zero => rfl
  | succ n ih =>
    unfold cntS
    rw [ih (fun k hk => h k (by omega)), h n (by omega)]
/-- the numbers from k on, d of them, that have p -/
def glS (p : Nat → Bool) : Nat → Nat → List Nat
  | 0, _ => []
  | d + 1, k => if p k then k :: glS p d (k + 1) else glS p d (k + 1)
theorem glS_c {p q : Nat → Bool} {d k : Nat} (h : ∀ j, k ≤ j → j < k + d → p j = q j) : glS p d k = glS q d k := by
  induction d generalizing k with
  | zero => rfl
  | succ d ih =>
    unfold glS
    rw [h k (by omega) (by omega), ih (fun j h1 h2 => h j (by omega) (by omega))]
theorem glS_mem {p : Nat → Bool} {d k b : Nat} (h : b ∈ glS p d k) : k ≤ b ∧ b < k + d ∧ p b = true := by
  induction d generalizing k with
  | zero => cases h
  | succ d ih =>
    unfold glS at h
    split at h
    · rename_i hp
      rcases List.mem_cons.mp h with e | e
      · subst e; exact ⟨Nat.le_refl _, by omega, hp⟩
      · obtain ⟨a, b', c⟩ := ih e; exact ⟨by omega, by omega, c⟩
    · obtain ⟨a, b', c⟩ := ih h; exact ⟨by omega, by omega, c⟩
theorem glS_len {p : Nat → Bool} {d k : Nat} : (glS p d k).length ≤ d := by
  induction d generalizing k with
  | zero => exact Nat.le_refl 0
  | succ d ih =>
    unfold glS
    split
    · rw [List.length_cons]; have := ih (k := k + 1); omega
    · have := ih (k := k + 1); omega
theorem glS_snoc {p : Nat → Bool} {d k : Nat} : glS p (d + 1) k = glS p d k ++ (if p (k + d) then [k + d] else []) := by
  induction d generalizing k with
  | zero =>
    rw [Nat.add_zero]
    show (if p k = true then [k] else []) = [] ++ (if p k = true then [k] else [])
    rfl
  | succ d ih =>
    rw [show glS p (d + 1 + 1) k = (if p k then k :: glS p (d + 1) (k + 1) else glS p (d + 1) (k + 1)) from rfl, ih, show k + 1 + d = k + (d + 1) from by omega]
    rw [show glS p (d + 1) k = (if p k then k :: glS p d (k + 1) else glS p d (k + 1)) from rfl]
    split <;> rfl
theorem glS_cnt {p : Nat → Bool} {d : Nat} : (glS p d 0).length = cntS p d := by
  induction d with
  | zero => rfl
  | succ d ih =>
    rw [glS_snoc, List.length_append, ih, Nat.zero_add]
    show cntS p d + (if p d = true then [d] else []).length = cntS p d + (if p d = true then 1 else 0)
    cases p d <;> rfl

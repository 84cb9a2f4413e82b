/-! the reference's world as functions, as its constructor leaves it -/
def kfg (q : Nat → Nat) (f : Nat → Int32) : List (Option Nat) → Nat → List Value
  | [], _ => []
  | none :: l, n => Value.int (f n) :: kfg q f l (n + 1)
  | some i :: l, n => Value.ref (q i) :: kfg q f l (n + 1)
theorem kfg_eq {q : Nat → Nat} {f : Nat → Int32} : ∀ (l : List (Option Nat)) (n : Nat), l.mapIdx (fun j r => match r with | none => Value.int (f (j + n)) | some i => Value.ref (q i)) = kfg q f l n := by
  intro l
  induction l with
  | nil => intro n; rfl
  | cons x l ih =>
    intro n
    rw [List.mapIdx_cons]
    have e : (fun (i : Nat) (r : Option Nat) => (match r with | none => Value.int (f (i + 1 + n)) | some i => Value.ref (q i))) = (fun (i : Nat) (r : Option Nat) => (match r with | none => Value.int (f (i + (n + 1))) | some i => Value.ref (q i))) := by
      funext i r
      rw [show i + 1 + n = i + (n + 1) by omega]
    cases x with
    | none => show Value.int (f (0 + n)) :: List.mapIdx _ l = _; rw [e, ih, Nat.zero_add]; rfl
    | some i => show Value.ref (q i) :: List.mapIdx _ l = _; rw [e, ih]; rfl
theorem kfs_g {q : Nat → Nat} {f : Nat → Int32} {l : List (Option Nat)} : kfs q f l = kfg q f l 0 := kfg_eq l 0
set_option maxHeartbeats 4000000 in
set_option maxRecDepth 20000 in
theorem conv_M {D : va_G} {dA : Nat → ClassId} {A : Nat → Prop} {H : Heap} (h0 q1 q2 q3 q4 q5 q6 q7 q8 q9 q10 q11 q12 q13 q14 q15 q16 q17 q18 q19 q20 q21 q22 q23 q24 q25 q26 q27 q28 q29 : Nat) (hP : va_P D vwCl [(h0, .inr (9, [.int 0, .ref q1, .ref q2, .ref q3, .ref q4, .ref q5, .int 0, .ref q6, .int 0, .ref q7, .ref q8, .int 0, .ref q9, .ref q10, .ref q11, .ref q12, .ref q13, .ref q14, .ref q15, .ref q16, .int 0, .ref q17, .ref q18, .ref q19, .ref q20, .ref q21, .ref q22, .int 0, .ref q23, .int 0, .ref q24, .ref q25, .int 0, .int 0, .ref q26, .int 0, .int 0, .int 0, .int 0, .int 0, .int 0, .ref q27, .ref q28, .int 0, .ref q29, .int 0])), (q1, .inl (dA 0, 60, .inl (fun _ => 0))), (q2, .inl (dA 0, 60, .inl (fun _ => 0))), (q3, .inl (dA 0, 60, .inl (fun _ => 0))), (q4, .inl (dA 0, 60, .inl (fun _ => 0))), (q5, .inl (dA 1, 60, .inl (fun _ => 0))), (q6, .inl (dA 0, 24, .inl (fun _ => 0))), (q7, .inl (dA 0, 192, .inl (fun _ => 0))), (q8, .inl (dA 0, 8, .inl (fun _ => 0))), (q9, .inl (dA 0, 8, .inl (fun _ => 0))), (q10, .inl (dA 0, 8, .inl (fun _ => 0))), (q11, .inl (dA 0, 8, .inl (fun _ => 0))), (q12, .inl (dA 0, 8, .inl (fun _ => 0))), (q13, .inl (dA 1, 8, .inl (fun _ => 0))), (q14, .inl (dA 0, 8, .inl (fun _ => 0))), (q15, .inl (dA 0, 8, .inl (fun _ => 0))), (q16, .inl (dA 0, 8, .inl (fun _ => 0))), (q17, .inl (dA 0, 600, .inl (fun _ => 0))), (q18, .inl (dA 0, 100, .inl (fun _ => 0))), (q19, .inl (dA 0, 100, .inl (fun _ => 0))), (q20, .inl (dA 0, 100, .inl (fun _ => 0))), (q21, .inl (dA 0, 100, .inl (fun _ => 0))), (q22, .inl (dA 1, 100, .inl (fun _ => 0))), (q23, .inl (dA 0, 6, .inl (fun _ => 0))), (q24, .inl (dA 1, 100, .inl (fun _ => 0))), (q25, .inl (dA 0, 2400, .inl (fun _ => 0))), (q26, .inl (dA 0, 800, .inl (fun _ => 0))), (q27, .inl (dA 0, 24, .inl (fun _ => 0))), (q28, .inl (dA 0, 24, .inl (fun _ => 0))), (q29, .inl (dA 0, 8, .inl (fun _ => 0)))] H) (hD : va_D A [(h0, .inr (9, [.int 0, .ref q1, .ref q2, .ref q3, .ref q4, .ref q5, .int 0, .ref q6, .int 0, .ref q7, .ref q8, .int 0, .ref q9, .ref q10, .ref q11, .ref q12, .ref q13, .ref q14, .ref q15, .ref q16, .int 0, .ref q17, .ref q18, .ref q19, .ref q20, .ref q21, .ref q22, .int 0, .ref q23, .int 0, .ref q24, .ref q25, .int 0, .int 0, .ref q26, .int 0, .int 0, .int 0, .int 0, .int 0, .int 0, .ref q27, .ref q28, .int 0, .ref q29, .int 0])), (q1, .inl (dA 0, 60, .inl (fun _ => 0))), (q2, .inl (dA 0, 60, .inl (fun _ => 0))), (q3, .inl (dA 0, 60, .inl (fun _ => 0))), (q4, .inl (dA 0, 60, .inl (fun _ => 0))), (q5, .inl (dA 1, 60, .inl (fun _ => 0))), (q6, .inl (dA 0, 24, .inl (fun _ => 0))), (q7, .inl (dA 0, 192, .inl (fun _ => 0))), (q8, .inl (dA 0, 8, .inl (fun _ => 0))), (q9, .inl (dA 0, 8, .inl (fun _ => 0))), (q10, .inl (dA 0, 8, .inl (fun _ => 0))), (q11, .inl (dA 0, 8, .inl (fun _ => 0))), (q12, .inl (dA 0, 8, .inl (fun _ => 0))), (q13, .inl (dA 1, 8, .inl (fun _ => 0))), (q14, .inl (dA 0, 8, .inl (fun _ => 0))), (q15, .inl (dA 0, 8, .inl (fun _ => 0))), (q16, .inl (dA 0, 8, .inl (fun _ => 0))), (q17, .inl (dA 0, 600, .inl (fun _ => 0))), (q18, .inl (dA 0, 100, .inl (fun _ => 0))), (q19, .inl (dA 0, 100, .inl (fun _ => 0))), (q20, .inl (dA 0, 100, .inl (fun _ => 0))), (q21, .inl (dA 0, 100, .inl (fun _ => 0))), (q22, .inl (dA 1, 100, .inl (fun _ => 0))), (q23, .inl (dA 0, 6, .inl (fun _ => 0))), (q24, .inl (dA 1, 100, .inl (fun _ => 0))), (q25, .inl (dA 0, 2400, .inl (fun _ => 0))), (q26, .inl (dA 0, 800, .inl (fun _ => 0))), (q27, .inl (dA 0, 24, .inl (fun _ => 0))), (q28, .inl (dA 0, 24, .inl (fun _ => 0))), (q29, .inl (dA 0, 8, .inl (fun _ => 0)))]) : ∃ q : Nat → Nat, q 0 = h0 ∧ injK KM q ∧ (∀ i, i < KM.length → A (q i)) ∧ va_P D vwCl (wld KM dA q (fun _ _ => 0)) H := by
  have hfst : ∀ i, i < 30 → ∃ x, ([(h0, .inr (9, [.int 0, .ref q1, .ref q2, .ref q3, .ref q4, .ref q5, .int 0, .ref q6, .int 0, .ref q7, .ref q8, .int 0, .ref q9, .ref q10, .ref q11, .ref q12, .ref q13, .ref q14, .ref q15, .ref q16, .int 0, .ref q17, .ref q18, .ref q19, .ref q20, .ref q21, .ref q22, .int 0, .ref q23, .int 0, .ref q24, .ref q25, .int 0, .int 0, .ref q26, .int 0, .int 0, .int 0, .int 0, .int 0, .int 0, .ref q27, .ref q28, .int 0, .ref q29, .int 0])), (q1, .inl (dA 0, 60, .inl (fun _ => 0))), (q2, .inl (dA 0, 60, .inl (fun _ => 0))), (q3, .inl (dA 0, 60, .inl (fun _ => 0))), (q4, .inl (dA 0, 60, .inl (fun _ => 0))), (q5, .inl (dA 1, 60, .inl (fun _ => 0))), (q6, .inl (dA 0, 24, .inl (fun _ => 0))), (q7, .inl (dA 0, 192, .inl (fun _ => 0))), (q8, .inl (dA 0, 8, .inl (fun _ => 0))), (q9, .inl (dA 0, 8, .inl (fun _ => 0))), (q10, .inl (dA 0, 8, .inl (fun _ => 0))), (q11, .inl (dA 0, 8, .inl (fun _ => 0))), (q12, .inl (dA 0, 8, .inl (fun _ => 0))), (q13, .inl (dA 1, 8, .inl (fun _ => 0))), (q14, .inl (dA 0, 8, .inl (fun _ => 0))), (q15, .inl (dA 0, 8, .inl (fun _ => 0))), (q16, .inl (dA 0, 8, .inl (fun _ => 0))), (q17, .inl (dA 0, 600, .inl (fun _ => 0))), (q18, .inl (dA 0, 100, .inl (fun _ => 0))), (q19, .inl (dA 0, 100, .inl (fun _ => 0))), (q20, .inl (dA 0, 100, .inl (fun _ => 0))), (q21, .inl (dA 0, 100, .inl (fun _ => 0))), (q22, .inl (dA 1, 100, .inl (fun _ => 0))), (q23, .inl (dA 0, 6, .inl (fun _ => 0))), (q24, .inl (dA 1, 100, .inl (fun _ => 0))), (q25, .inl (dA 0, 2400, .inl (fun _ => 0))), (q26, .inl (dA 0, 800, .inl (fun _ => 0))), (q27, .inl (dA 0, 24, .inl (fun _ => 0))), (q28, .inl (dA 0, 24, .inl (fun _ => 0))), (q29, .inl (dA 0, 8, .inl (fun _ => 0)))] : va_W)[i]? = some x ∧ x.1 = ([h0, q1, q2, q3, q4, q5, q6, q7, q8, q9, q10, q11, q12, q13, q14, q15, q16, q17, q18, q19, q20, q21, q22, q23, q24, q25, q26, q27, q28, q29] : List Nat).getD i 0 := by
    intro i hi
    match i, hi with
    | 0, _ => exact ⟨_, rfl, rfl⟩
    | 1, _ => exact ⟨_, rfl, rfl⟩
    | 2, _ => exact ⟨_, rfl, rfl⟩
    | 3, _ => exact ⟨_, rfl, rfl⟩
    | 4, _ => exact ⟨_, rfl, rfl⟩
    | 5, _ => exact ⟨_, rfl, rfl⟩
    | 6, _ => exact ⟨_, rfl, rfl⟩
    | 7, _ => exact ⟨_, rfl, rfl⟩
    | 8, _ => exact ⟨_, rfl, rfl⟩
    | 9, _ => exact ⟨_, rfl, rfl⟩
    | 10, _ => exact ⟨_, rfl, rfl⟩
    | 11, _ => exact ⟨_, rfl, rfl⟩
    | 12, _ => exact ⟨_, rfl, rfl⟩
    | 13, _ => exact ⟨_, rfl, rfl⟩
    | 14, _ => exact ⟨_, rfl, rfl⟩
    | 15, _ => exact ⟨_, rfl, rfl⟩
    | 16, _ => exact ⟨_, rfl, rfl⟩
    | 17, _ => exact ⟨_, rfl, rfl⟩
    | 18, _ => exact ⟨_, rfl, rfl⟩
    | 19, _ => exact ⟨_, rfl, rfl⟩
    | 20, _ => exact ⟨_, rfl, rfl⟩
    | 21, _ => exact ⟨_, rfl, rfl⟩
    | 22, _ => exact ⟨_, rfl, rfl⟩
    | 23, _ => exact ⟨_, rfl, rfl⟩
    | 24, _ => exact ⟨_, rfl, rfl⟩
    | 25, _ => exact ⟨_, rfl, rfl⟩
    | 26, _ => exact ⟨_, rfl, rfl⟩
    | 27, _ => exact ⟨_, rfl, rfl⟩
    | 28, _ => exact ⟨_, rfl, rfl⟩
    | 29, _ => exact ⟨_, rfl, rfl⟩
    | n + 30, h => exact absurd h (by omega)
  refine ⟨fun i => ([h0, q1, q2, q3, q4, q5, q6, q7, q8, q9, q10, q11, q12, q13, q14, q15, q16, q17, q18, q19, q20, q21, q22, q23, q24, q25, q26, q27, q28, q29] : List Nat).getD i 0, rfl, fun i j hi hj e => ?_, fun i hi => ?_, fun i z hz => ?_⟩
  · obtain ⟨x, hx, ex⟩ := hfst i hi
    obtain ⟨y, hy, ey⟩ := hfst j hj
    exact hD.1 _ _ x y hx hy (by rw [ex, ey]; exact e)
  · obtain ⟨x, hx, ex⟩ := hfst i hi
    have h := hD.2 _ x hx
    rw [ex] at h
    exact h
  · have hi : i < 30 := (wld_in hz).1
    have hz2 := wld_at (dA := dA) (q := fun i => ([h0, q1, q2, q3, q4, q5, q6, q7, q8, q9, q10, q11, q12, q13, q14, q15, q16, q17, q18, q19, q20, q21, q22, q23, q24, q25, q26, q27, q28, q29] : List Nat).getD i 0) (w := fun _ _ => 0) (List.getElem?_eq_getElem (l := KM) (i := i) hi)
    rw [hz2] at hz
    obtain rfl := Option.some.inj hz
    clear hz hz2 hD hfst
    match i, hi with
    | 0, _ =>
      have e9 : kfs (fun i => ([h0, q1, q2, q3, q4, q5, q6, q7, q8, q9, q10, q11, q12, q13, q14, q15, q16, q17, q18, q19, q20, q21, q22, q23, q24, q25, q26, q27, q28, q29] : List Nat).getD i 0) (fun _ => 0) [none, some 1, some 2, some 3, some 4, some 5, none, some 6, none, some 7, some 8, none, some 9, some 10, some 11, some 12, some 13, some 14, some 15, some 16, none, some 17, some 18, some 19, some 20, some 21, some 22, none, some 23, none, some 24, some 25, none, none, some 26, none, none, none, none, none, none, some 27, some 28, none, some 29, none] = [.int 0, .ref q1, .ref q2, .ref q3, .ref q4, .ref q5, .int 0, .ref q6, .int 0, .ref q7, .ref q8, .int 0, .ref q9, .ref q10, .ref q11, .ref q12, .ref q13, .ref q14, .ref q15, .ref q16, .int 0, .ref q17, .ref q18, .ref q19, .ref q20, .ref q21, .ref q22, .int 0, .ref q23, .int 0, .ref q24, .ref q25, .int 0, .int 0, .ref q26, .int 0, .int 0, .int 0, .int 0, .int 0, .int 0, .ref q27, .ref q28, .int 0, .ref q29, .int 0] := by rw [kfs_g]; rfl
      show va_at D vwCl (h0, .inr (9, kfs (fun i => ([h0, q1, q2, q3, q4, q5, q6, q7, q8, q9, q10, q11, q12, q13, q14, q15, q16, q17, q18, q19, q20, q21, q22, q23, q24, q25, q26, q27, q28, q29] : List Nat).getD i 0) (fun _ => 0) [none, some 1, some 2, some 3, some 4, some 5, none, some 6, none, some 7, some 8, none, some 9, some 10, some 11, some 12, some 13, some 14, some 15, some 16, none, some 17, some 18, some 19, some 20, some 21, some 22, none, some 23, none, some 24, some 25, none, none, some 26, none, none, none, none, none, none, some 27, some 28, none, some 29, none])) H
      rw [e9]
      exact hP 0 _ rfl
    | 1, _ => exact hP 1 _ rfl
    | 2, _ => exact hP 2 _ rfl
    | 3, _ => exact hP 3 _ rfl
    | 4, _ => exact hP 4 _ rfl
    | 5, _ => exact hP 5 _ rfl
    | 6, _ => exact hP 6 _ rfl
    | 7, _ => exact hP 7 _ rfl
    | 8, _ => exact hP 8 _ rfl
    | 9, _ => exact hP 9 _ rfl
    | 10, _ => exact hP 10 _ rfl
    | 11, _ => exact hP 11 _ rfl
    | 12, _ => exact hP 12 _ rfl
    | 13, _ => exact hP 13 _ rfl
    | 14, _ => exact hP 14 _ rfl
    | 15, _ => exact hP 15 _ rfl
    | 16, _ => exact hP 16 _ rfl
    | 17, _ => exact hP 17 _ rfl
    | 18, _ => exact hP 18 _ rfl
    | 19, _ => exact hP 19 _ rfl
    | 20, _ => exact hP 20 _ rfl
    | 21, _ => exact hP 21 _ rfl
    | 22, _ => exact hP 22 _ rfl
    | 23, _ => exact hP 23 _ rfl
    | 24, _ => exact hP 24 _ rfl
    | 25, _ => exact hP 25 _ rfl
    | 26, _ => exact hP 26 _ rfl
    | 27, _ => exact hP 27 _ rfl
    | 28, _ => exact hP 28 _ rfl
    | 29, _ => exact hP 29 _ rfl
    | n + 30, h => exact absurd h (by omega)

/-- the world at the start: no entries, rules and votes; nothing is certified -/
def w0C : Wt := fun i k => if 64 ≤ i ∧ i < 72 ∧ k = 7 then -1 else 0
def plC : List Nat := [0, 1, 2, 3, 4, 5, 6, 7, 8, 9, 10, 11, 12, 13, 14, 15, 16, 17, 18, 19, 20, 21, 22, 23, 24, 25, 26, 27, 28, 29, 30, 31, 32, 36, 40, 44, 48, 52, 56, 60, 33, 37, 41, 45, 49, 53, 57, 61, 34, 38, 42, 46, 50, 54, 58, 62, 35, 39, 43, 47, 51, 55, 59, 63, 64, 65, 66, 67, 68, 69, 70, 71]
theorem plC_lt : ∀ i, i < 72 → plC.getD i 0 < 72 := by decide +kernel
theorem plC_inj : ∀ i, i < 72 → ∀ j, j < 72 → plC.getD i 0 = plC.getD j 0 → i = j := by decide +kernel
set_option maxHeartbeats 4000000 in
set_option maxRecDepth 20000 in
theorem conv_C {D : va_G} {dA : Nat → ClassId} {A : Nat → Prop} {H : Heap} (h0 q1 q2 q3 q4 q5 q6 q7 q8 q9 q10 q11 q12 q13 q14 q15 q16 q17 q18 q19 q20 q21 q22 q23 q24 q25 q26 q27 q28 q29 q30 q31 q32 q33 q34 q35 q36 q37 q38 q39 q40 q41 q42 q43 q44 q45 q46 q47 q48 q49 q50 q51 q52 q53 q54 q55 q56 q57 q58 q59 q60 q61 q62 q63 q64 q65 q66 q67 q68 q69 q70 q71 : Nat) (hP : va_P D vwCl [(h0, .inr (8, [.ref q1, .ref q7, .ref q9, .ref q10, .ref q11, .ref q13, .ref q22, .ref q28, .int 0, .int 0, .int 0])), (q1, .inr (3, [.ref q2, .ref q3, .ref q4, .ref q5, .ref q6, .int 0])), (q2, .inl (dA 0, 60, .inl (fun _ => 0))), (q3, .inl (dA 0, 60, .inl (fun _ => 0))), (q4, .inl (dA 0, 60, .inl (fun _ => 0))), (q5, .inl (dA 0, 60, .inl (fun _ => 0))), (q6, .inl (dA 1, 60, .inl (fun _ => 0))), (q7, .inr (6, [.ref q8, .int 0])), (q8, .inl (dA 2, 24, .inl (fun _ => 0))), (q9, .inl (dA 3, 8, .inr (.inr (.inr (.inr (va_up (va_up (va_up (va_up (va_up (va_up (va_up (va_up (fun _ => none) ((0 : Int32)).toNatClampNeg (some q32)) ((1 : Int32)).toNatClampNeg (some q36)) ((2 : Int32)).toNatClampNeg (some q40)) ((3 : Int32)).toNatClampNeg (some q44)) ((4 : Int32)).toNatClampNeg (some q48)) ((5 : Int32)).toNatClampNeg (some q52)) ((6 : Int32)).toNatClampNeg (some q56)) ((7 : Int32)).toNatClampNeg (some q60))))))), (q10, .inl (dA 4, 8, .inr (.inr (.inr (.inr (va_up (va_up (va_up (va_up (va_up (va_up (va_up (va_up (fun _ => none) ((0 : Int32)).toNatClampNeg (some q64)) ((1 : Int32)).toNatClampNeg (some q65)) ((2 : Int32)).toNatClampNeg (some q66)) ((3 : Int32)).toNatClampNeg (some q67)) ((4 : Int32)).toNatClampNeg (some q68)) ((5 : Int32)).toNatClampNeg (some q69)) ((6 : Int32)).toNatClampNeg (some q70)) ((7 : Int32)).toNatClampNeg (some q71))))))), (q11, .inr (5, [.ref q12, .int 0])), (q12, .inl (dA 0, 6, .inl (fun _ => 0))), (q13, .inr (0, [.ref q1, .ref q14, .ref q15, .ref q16, .ref q17, .ref q18, .ref q19, .ref q20, .int 0, .ref q21, .int 0])), (q14, .inl (dA 0, 100, .inl (fun _ => 0))), (q15, .inl (dA 0, 100, .inl (fun _ => 0))), (q16, .inl (dA 0, 100, .inl (fun _ => 0))), (q17, .inl (dA 0, 100, .inl (fun _ => 0))), (q18, .inl (dA 0, 100, .inl (fun _ => 0))), (q19, .inl (dA 0, 600, .inl (fun _ => 0))), (q20, .inl (dA 1, 100, .inl (fun _ => 0))), (q21, .inl (dA 0, 100, .inl (fun _ => 0))), (q22, .inr (2, [.ref q13, .ref q23, .int 0, .int 0, .int 0, .int 0, .int 0, .int 0, .ref q24, .ref q25, .ref q26, .ref q27])), (q23, .inl (dA 0, 6, .inl (fun _ => 0))), (q24, .inl (dA 0, 936, .inl (fun _ => 0))), (q25, .inl (dA 0, 156, .inl (fun _ => 0))), (q26, .inl (dA 0, 156, .inl (fun _ => 0))), (q27, .inl (dA 0, 24, .inl (fun _ => 0))), (q28, .inr (1, [.ref q13, .ref q29, .int 0, .int 0, .int 0, .int 0, .int 0, .int 0, .ref q30, .ref q31])), (q29, .inl (dA 0, 6, .inl (fun _ => 0))), (q30, .inl (dA 2, 156, .inl (fun _ => 0))), (q31, .inl (dA 0, 156, .inl (fun _ => 0))), (q32, .inr (4, [.ref q33, .ref q34, .ref q35, .int 0, .int 0, .int 0])), (q33, .inl (dA 2, 24, .inl (fun _ => 0))), (q34, .inl (dA 2, 24, .inl (fun _ => 0))), (q35, .inl (dA 0, 24, .inl (fun _ => 0))), (q36, .inr (4, [.ref q37, .ref q38, .ref q39, .int 0, .int 0, .int 0])), (q37, .inl (dA 2, 24, .inl (fun _ => 0))), (q38, .inl (dA 2, 24, .inl (fun _ => 0))), (q39, .inl (dA 0, 24, .inl (fun _ => 0))), (q40, .inr (4, [.ref q41, .ref q42, .ref q43, .int 0, .int 0, .int 0])), (q41, .inl (dA 2, 24, .inl (fun _ => 0))), (q42, .inl (dA 2, 24, .inl (fun _ => 0))), (q43, .inl (dA 0, 24, .inl (fun _ => 0))), (q44, .inr (4, [.ref q45, .ref q46, .ref q47, .int 0, .int 0, .int 0])), (q45, .inl (dA 2, 24, .inl (fun _ => 0))), (q46, .inl (dA 2, 24, .inl (fun _ => 0))), (q47, .inl (dA 0, 24, .inl (fun _ => 0))), (q48, .inr (4, [.ref q49, .ref q50, .ref q51, .int 0, .int 0, .int 0])), (q49, .inl (dA 2, 24, .inl (fun _ => 0))), (q50, .inl (dA 2, 24, .inl (fun _ => 0))), (q51, .inl (dA 0, 24, .inl (fun _ => 0))), (q52, .inr (4, [.ref q53, .ref q54, .ref q55, .int 0, .int 0, .int 0])), (q53, .inl (dA 2, 24, .inl (fun _ => 0))), (q54, .inl (dA 2, 24, .inl (fun _ => 0))), (q55, .inl (dA 0, 24, .inl (fun _ => 0))), (q56, .inr (4, [.ref q57, .ref q58, .ref q59, .int 0, .int 0, .int 0])), (q57, .inl (dA 2, 24, .inl (fun _ => 0))), (q58, .inl (dA 2, 24, .inl (fun _ => 0))), (q59, .inl (dA 0, 24, .inl (fun _ => 0))), (q60, .inr (4, [.ref q61, .ref q62, .ref q63, .int 0, .int 0, .int 0])), (q61, .inl (dA 2, 24, .inl (fun _ => 0))), (q62, .inl (dA 2, 24, .inl (fun _ => 0))), (q63, .inl (dA 0, 24, .inl (fun _ => 0))), (q64, .inr (7, [.int 0, .int 0, .int 0, .int 0, .int 0, .int 0, .int 0, .int (-1), .int 0])), (q65, .inr (7, [.int 0, .int 0, .int 0, .int 0, .int 0, .int 0, .int 0, .int (-1), .int 0])), (q66, .inr (7, [.int 0, .int 0, .int 0, .int 0, .int 0, .int 0, .int 0, .int (-1), .int 0])), (q67, .inr (7, [.int 0, .int 0, .int 0, .int 0, .int 0, .int 0, .int 0, .int (-1), .int 0])), (q68, .inr (7, [.int 0, .int 0, .int 0, .int 0, .int 0, .int 0, .int 0, .int (-1), .int 0])), (q69, .inr (7, [.int 0, .int 0, .int 0, .int 0, .int 0, .int 0, .int 0, .int (-1), .int 0])), (q70, .inr (7, [.int 0, .int 0, .int 0, .int 0, .int 0, .int 0, .int 0, .int (-1), .int 0])), (q71, .inr (7, [.int 0, .int 0, .int 0, .int 0, .int 0, .int 0, .int 0, .int (-1), .int 0]))] H) (hD : va_D A [(h0, .inr (8, [.ref q1, .ref q7, .ref q9, .ref q10, .ref q11, .ref q13, .ref q22, .ref q28, .int 0, .int 0, .int 0])), (q1, .inr (3, [.ref q2, .ref q3, .ref q4, .ref q5, .ref q6, .int 0])), (q2, .inl (dA 0, 60, .inl (fun _ => 0))), (q3, .inl (dA 0, 60, .inl (fun _ => 0))), (q4, .inl (dA 0, 60, .inl (fun _ => 0))), (q5, .inl (dA 0, 60, .inl (fun _ => 0))), (q6, .inl (dA 1, 60, .inl (fun _ => 0))), (q7, .inr (6, [.ref q8, .int 0])), (q8, .inl (dA 2, 24, .inl (fun _ => 0))), (q9, .inl (dA 3, 8, .inr (.inr (.inr (.inr (va_up (va_up (va_up (va_up (va_up (va_up (va_up (va_up (fun _ => none) ((0 : Int32)).toNatClampNeg (some q32)) ((1 : Int32)).toNatClampNeg (some q36)) ((2 : Int32)).toNatClampNeg (some q40)) ((3 : Int32)).toNatClampNeg (some q44)) ((4 : Int32)).toNatClampNeg (some q48)) ((5 : Int32)).toNatClampNeg (some q52)) ((6 : Int32)).toNatClampNeg (some q56)) ((7 : Int32)).toNatClampNeg (some q60))))))), (q10, .inl (dA 4, 8, .inr (.inr (.inr (.inr (va_up (va_up (va_up (va_up (va_up (va_up (va_up (va_up (fun _ => none) ((0 : Int32)).toNatClampNeg (some q64)) ((1 : Int32)).toNatClampNeg (some q65)) ((2 : Int32)).toNatClampNeg (some q66)) ((3 : Int32)).toNatClampNeg (some q67)) ((4 : Int32)).toNatClampNeg (some q68)) ((5 : Int32)).toNatClampNeg (some q69)) ((6 : Int32)).toNatClampNeg (some q70)) ((7 : Int32)).toNatClampNeg (some q71))))))), (q11, .inr (5, [.ref q12, .int 0])), (q12, .inl (dA 0, 6, .inl (fun _ => 0))), (q13, .inr (0, [.ref q1, .ref q14, .ref q15, .ref q16, .ref q17, .ref q18, .ref q19, .ref q20, .int 0, .ref q21, .int 0])), (q14, .inl (dA 0, 100, .inl (fun _ => 0))), (q15, .inl (dA 0, 100, .inl (fun _ => 0))), (q16, .inl (dA 0, 100, .inl (fun _ => 0))), (q17, .inl (dA 0, 100, .inl (fun _ => 0))), (q18, .inl (dA 0, 100, .inl (fun _ => 0))), (q19, .inl (dA 0, 600, .inl (fun _ => 0))), (q20, .inl (dA 1, 100, .inl (fun _ => 0))), (q21, .inl (dA 0, 100, .inl (fun _ => 0))), (q22, .inr (2, [.ref q13, .ref q23, .int 0, .int 0, .int 0, .int 0, .int 0, .int 0, .ref q24, .ref q25, .ref q26, .ref q27])), (q23, .inl (dA 0, 6, .inl (fun _ => 0))), (q24, .inl (dA 0, 936, .inl (fun _ => 0))), (q25, .inl (dA 0, 156, .inl (fun _ => 0))), (q26, .inl (dA 0, 156, .inl (fun _ => 0))), (q27, .inl (dA 0, 24, .inl (fun _ => 0))), (q28, .inr (1, [.ref q13, .ref q29, .int 0, .int 0, .int 0, .int 0, .int 0, .int 0, .ref q30, .ref q31])), (q29, .inl (dA 0, 6, .inl (fun _ => 0))), (q30, .inl (dA 2, 156, .inl (fun _ => 0))), (q31, .inl (dA 0, 156, .inl (fun _ => 0))), (q32, .inr (4, [.ref q33, .ref q34, .ref q35, .int 0, .int 0, .int 0])), (q33, .inl (dA 2, 24, .inl (fun _ => 0))), (q34, .inl (dA 2, 24, .inl (fun _ => 0))), (q35, .inl (dA 0, 24, .inl (fun _ => 0))), (q36, .inr (4, [.ref q37, .ref q38, .ref q39, .int 0, .int 0, .int 0])), (q37, .inl (dA 2, 24, .inl (fun _ => 0))), (q38, .inl (dA 2, 24, .inl (fun _ => 0))), (q39, .inl (dA 0, 24, .inl (fun _ => 0))), (q40, .inr (4, [.ref q41, .ref q42, .ref q43, .int 0, .int 0, .int 0])), (q41, .inl (dA 2, 24, .inl (fun _ => 0))), (q42, .inl (dA 2, 24, .inl (fun _ => 0))), (q43, .inl (dA 0, 24, .inl (fun _ => 0))), (q44, .inr (4, [.ref q45, .ref q46, .ref q47, .int 0, .int 0, .int 0])), (q45, .inl (dA 2, 24, .inl (fun _ => 0))), (q46, .inl (dA 2, 24, .inl (fun _ => 0))), (q47, .inl (dA 0, 24, .inl (fun _ => 0))), (q48, .inr (4, [.ref q49, .ref q50, .ref q51, .int 0, .int 0, .int 0])), (q49, .inl (dA 2, 24, .inl (fun _ => 0))), (q50, .inl (dA 2, 24, .inl (fun _ => 0))), (q51, .inl (dA 0, 24, .inl (fun _ => 0))), (q52, .inr (4, [.ref q53, .ref q54, .ref q55, .int 0, .int 0, .int 0])), (q53, .inl (dA 2, 24, .inl (fun _ => 0))), (q54, .inl (dA 2, 24, .inl (fun _ => 0))), (q55, .inl (dA 0, 24, .inl (fun _ => 0))), (q56, .inr (4, [.ref q57, .ref q58, .ref q59, .int 0, .int 0, .int 0])), (q57, .inl (dA 2, 24, .inl (fun _ => 0))), (q58, .inl (dA 2, 24, .inl (fun _ => 0))), (q59, .inl (dA 0, 24, .inl (fun _ => 0))), (q60, .inr (4, [.ref q61, .ref q62, .ref q63, .int 0, .int 0, .int 0])), (q61, .inl (dA 2, 24, .inl (fun _ => 0))), (q62, .inl (dA 2, 24, .inl (fun _ => 0))), (q63, .inl (dA 0, 24, .inl (fun _ => 0))), (q64, .inr (7, [.int 0, .int 0, .int 0, .int 0, .int 0, .int 0, .int 0, .int (-1), .int 0])), (q65, .inr (7, [.int 0, .int 0, .int 0, .int 0, .int 0, .int 0, .int 0, .int (-1), .int 0])), (q66, .inr (7, [.int 0, .int 0, .int 0, .int 0, .int 0, .int 0, .int 0, .int (-1), .int 0])), (q67, .inr (7, [.int 0, .int 0, .int 0, .int 0, .int 0, .int 0, .int 0, .int (-1), .int 0])), (q68, .inr (7, [.int 0, .int 0, .int 0, .int 0, .int 0, .int 0, .int 0, .int (-1), .int 0])), (q69, .inr (7, [.int 0, .int 0, .int 0, .int 0, .int 0, .int 0, .int 0, .int (-1), .int 0])), (q70, .inr (7, [.int 0, .int 0, .int 0, .int 0, .int 0, .int 0, .int 0, .int (-1), .int 0])), (q71, .inr (7, [.int 0, .int 0, .int 0, .int 0, .int 0, .int 0, .int 0, .int (-1), .int 0]))]) :
    ∃ q : Nat → Nat, q 0 = h0 ∧ injK KC q ∧ (∀ i, i < KC.length → A (q i)) ∧ va_P D vwCl (wld KC dA q w0C) H := by
  have hfst : ∀ i, i < 72 → ∃ x, ([(h0, .inr (8, [.ref q1, .ref q7, .ref q9, .ref q10, .ref q11, .ref q13, .ref q22, .ref q28, .int 0, .int 0, .int 0])), (q1, .inr (3, [.ref q2, .ref q3, .ref q4, .ref q5, .ref q6, .int 0])), (q2, .inl (dA 0, 60, .inl (fun _ => 0))), (q3, .inl (dA 0, 60, .inl (fun _ => 0))), (q4, .inl (dA 0, 60, .inl (fun _ => 0))), (q5, .inl (dA 0, 60, .inl (fun _ => 0))), (q6, .inl (dA 1, 60, .inl (fun _ => 0))), (q7, .inr (6, [.ref q8, .int 0])), (q8, .inl (dA 2, 24, .inl (fun _ => 0))), (q9, .inl (dA 3, 8, .inr (.inr (.inr (.inr (va_up (va_up (va_up (va_up (va_up (va_up (va_up (va_up (fun _ => none) ((0 : Int32)).toNatClampNeg (some q32)) ((1 : Int32)).toNatClampNeg (some q36)) ((2 : Int32)).toNatClampNeg (some q40)) ((3 : Int32)).toNatClampNeg (some q44)) ((4 : Int32)).toNatClampNeg (some q48)) ((5 : Int32)).toNatClampNeg (some q52)) ((6 : Int32)).toNatClampNeg (some q56)) ((7 : Int32)).toNatClampNeg (some q60))))))), (q10, .inl (dA 4, 8, .inr (.inr (.inr (.inr (va_up (va_up (va_up (va_up (va_up (va_up (va_up (va_up (fun _ => none) ((0 : Int32)).toNatClampNeg (some q64)) ((1 : Int32)).toNatClampNeg (some q65)) ((2 : Int32)).toNatClampNeg (some q66)) ((3 : Int32)).toNatClampNeg (some q67)) ((4 : Int32)).toNatClampNeg (some q68)) ((5 : Int32)).toNatClampNeg (some q69)) ((6 : Int32)).toNatClampNeg (some q70)) ((7 : Int32)).toNatClampNeg (some q71))))))), (q11, .inr (5, [.ref q12, .int 0])), (q12, .inl (dA 0, 6, .inl (fun _ => 0))), (q13, .inr (0, [.ref q1, .ref q14, .ref q15, .ref q16, .ref q17, .ref q18, .ref q19, .ref q20, .int 0, .ref q21, .int 0])), (q14, .inl (dA 0, 100, .inl (fun _ => 0))), (q15, .inl (dA 0, 100, .inl (fun _ => 0))), (q16, .inl (dA 0, 100, .inl (fun _ => 0))), (q17, .inl (dA 0, 100, .inl (fun _ => 0))), (q18, .inl (dA 0, 100, .inl (fun _ => 0))), (q19, .inl (dA 0, 600, .inl (fun _ => 0))), (q20, .inl (dA 1, 100, .inl (fun _ => 0))), (q21, .inl (dA 0, 100, .inl (fun _ => 0))), (q22, .inr (2, [.ref q13, .ref q23, .int 0, .int 0, .int 0, .int 0, .int 0, .int 0, .ref q24, .ref q25, .ref q26, .ref q27])), (q23, .inl (dA 0, 6, .inl (fun _ => 0))), (q24, .inl (dA 0, 936, .inl (fun _ => 0))), (q25, .inl (dA 0, 156, .inl (fun _ => 0))), (q26, .inl (dA 0, 156, .inl (fun _ => 0))), (q27, .inl (dA 0, 24, .inl (fun _ => 0))), (q28, .inr (1, [.ref q13, .ref q29, .int 0, .int 0, .int 0, .int 0, .int 0, .int 0, .ref q30, .ref q31])), (q29, .inl (dA 0, 6, .inl (fun _ => 0))), (q30, .inl (dA 2, 156, .inl (fun _ => 0))), (q31, .inl (dA 0, 156, .inl (fun _ => 0))), (q32, .inr (4, [.ref q33, .ref q34, .ref q35, .int 0, .int 0, .int 0])), (q33, .inl (dA 2, 24, .inl (fun _ => 0))), (q34, .inl (dA 2, 24, .inl (fun _ => 0))), (q35, .inl (dA 0, 24, .inl (fun _ => 0))), (q36, .inr (4, [.ref q37, .ref q38, .ref q39, .int 0, .int 0, .int 0])), (q37, .inl (dA 2, 24, .inl (fun _ => 0))), (q38, .inl (dA 2, 24, .inl (fun _ => 0))), (q39, .inl (dA 0, 24, .inl (fun _ => 0))), (q40, .inr (4, [.ref q41, .ref q42, .ref q43, .int 0, .int 0, .int 0])), (q41, .inl (dA 2, 24, .inl (fun _ => 0))), (q42, .inl (dA 2, 24, .inl (fun _ => 0))), (q43, .inl (dA 0, 24, .inl (fun _ => 0))), (q44, .inr (4, [.ref q45, .ref q46, .ref q47, .int 0, .int 0, .int 0])), (q45, .inl (dA 2, 24, .inl (fun _ => 0))), (q46, .inl (dA 2, 24, .inl (fun _ => 0))), (q47, .inl (dA 0, 24, .inl (fun _ => 0))), (q48, .inr (4, [.ref q49, .ref q50, .ref q51, .int 0, .int 0, .int 0])), (q49, .inl (dA 2, 24, .inl (fun _ => 0))), (q50, .inl (dA 2, 24, .inl (fun _ => 0))), (q51, .inl (dA 0, 24, .inl (fun _ => 0))), (q52, .inr (4, [.ref q53, .ref q54, .ref q55, .int 0, .int 0, .int 0])), (q53, .inl (dA 2, 24, .inl (fun _ => 0))), (q54, .inl (dA 2, 24, .inl (fun _ => 0))), (q55, .inl (dA 0, 24, .inl (fun _ => 0))), (q56, .inr (4, [.ref q57, .ref q58, .ref q59, .int 0, .int 0, .int 0])), (q57, .inl (dA 2, 24, .inl (fun _ => 0))), (q58, .inl (dA 2, 24, .inl (fun _ => 0))), (q59, .inl (dA 0, 24, .inl (fun _ => 0))), (q60, .inr (4, [.ref q61, .ref q62, .ref q63, .int 0, .int 0, .int 0])), (q61, .inl (dA 2, 24, .inl (fun _ => 0))), (q62, .inl (dA 2, 24, .inl (fun _ => 0))), (q63, .inl (dA 0, 24, .inl (fun _ => 0))), (q64, .inr (7, [.int 0, .int 0, .int 0, .int 0, .int 0, .int 0, .int 0, .int (-1), .int 0])), (q65, .inr (7, [.int 0, .int 0, .int 0, .int 0, .int 0, .int 0, .int 0, .int (-1), .int 0])), (q66, .inr (7, [.int 0, .int 0, .int 0, .int 0, .int 0, .int 0, .int 0, .int (-1), .int 0])), (q67, .inr (7, [.int 0, .int 0, .int 0, .int 0, .int 0, .int 0, .int 0, .int (-1), .int 0])), (q68, .inr (7, [.int 0, .int 0, .int 0, .int 0, .int 0, .int 0, .int 0, .int (-1), .int 0])), (q69, .inr (7, [.int 0, .int 0, .int 0, .int 0, .int 0, .int 0, .int 0, .int (-1), .int 0])), (q70, .inr (7, [.int 0, .int 0, .int 0, .int 0, .int 0, .int 0, .int 0, .int (-1), .int 0])), (q71, .inr (7, [.int 0, .int 0, .int 0, .int 0, .int 0, .int 0, .int 0, .int (-1), .int 0]))] : va_W)[plC.getD i 0]? = some x ∧ x.1 = ([h0, q1, q2, q3, q4, q5, q6, q7, q8, q9, q10, q11, q12, q13, q14, q15, q16, q17, q18, q19, q20, q21, q22, q23, q24, q25, q26, q27, q28, q29, q30, q31, q32, q33, q34, q35, q36, q37, q38, q39, q40, q41, q42, q43, q44, q45, q46, q47, q48, q49, q50, q51, q52, q53, q54, q55, q56, q57, q58, q59, q60, q61, q62, q63, q64, q65, q66, q67, q68, q69, q70, q71] : List Nat).getD (plC.getD i 0) 0 := by
    intro i hi
    have hlt := plC_lt i hi
    generalize plC.getD i 0 = n at hlt ⊢
    match n, hlt with
    | 0, _ => exact ⟨_, rfl, rfl⟩
    | 1, _ => exact ⟨_, rfl, rfl⟩
    | 2, _ => exact ⟨_, rfl, rfl⟩
    | 3, _ => exact ⟨_, rfl, rfl⟩
    | 4, _ => exact ⟨_, rfl, rfl⟩
    | 5, _ => exact ⟨_, rfl, rfl⟩
    | 6, _ => exact ⟨_, rfl, rfl⟩
    | 7, _ => exact ⟨_, rfl, rfl⟩
    | 8, _ => exact ⟨_, rfl, rfl⟩
    | 9, _ => exact ⟨_, rfl, rfl⟩
    | 10, _ => exact ⟨_, rfl, rfl⟩
    | 11, _ => exact ⟨_, rfl, rfl⟩
    | 12, _ => exact ⟨_, rfl, rfl⟩
    | 13, _ => exact ⟨_, rfl, rfl⟩
    | 14, _ => exact ⟨_, rfl, rfl⟩
    | 15, _ => exact ⟨_, rfl, rfl⟩
    | 16, _ => exact ⟨_, rfl, rfl⟩
    | 17, _ => exact ⟨_, rfl, rfl⟩
    | 18, _ => exact ⟨_, rfl, rfl⟩
    | 19, _ => exact ⟨_, rfl, rfl⟩
    | 20, _ => exact ⟨_, rfl, rfl⟩
    | 21, _ => exact ⟨_, rfl, rfl⟩
    | 22, _ => exact ⟨_, rfl, rfl⟩
    | 23, _ => exact ⟨_, rfl, rfl⟩
    | 24, _ => exact ⟨_, rfl, rfl⟩
    | 25, _ => exact ⟨_, rfl, rfl⟩
    | 26, _ => exact ⟨_, rfl, rfl⟩
    | 27, _ => exact ⟨_, rfl, rfl⟩
    | 28, _ => exact ⟨_, rfl, rfl⟩
    | 29, _ => exact ⟨_, rfl, rfl⟩
    | 30, _ => exact ⟨_, rfl, rfl⟩
    | 31, _ => exact ⟨_, rfl, rfl⟩
    | 32, _ => exact ⟨_, rfl, rfl⟩
    | 33, _ => exact ⟨_, rfl, rfl⟩
    | 34, _ => exact ⟨_, rfl, rfl⟩
    | 35, _ => exact ⟨_, rfl, rfl⟩
    | 36, _ => exact ⟨_, rfl, rfl⟩
    | 37, _ => exact ⟨_, rfl, rfl⟩
    | 38, _ => exact ⟨_, rfl, rfl⟩
    | 39, _ => exact ⟨_, rfl, rfl⟩
    | 40, _ => exact ⟨_, rfl, rfl⟩
    | 41, _ => exact ⟨_, rfl, rfl⟩
    | 42, _ => exact ⟨_, rfl, rfl⟩
    | 43, _ => exact ⟨_, rfl, rfl⟩
    | 44, _ => exact ⟨_, rfl, rfl⟩
    | 45, _ => exact ⟨_, rfl, rfl⟩
    | 46, _ => exact ⟨_, rfl, rfl⟩
    | 47, _ => exact ⟨_, rfl, rfl⟩
    | 48, _ => exact ⟨_, rfl, rfl⟩
    | 49, _ => exact ⟨_, rfl, rfl⟩
    | 50, _ => exact ⟨_, rfl, rfl⟩
    | 51, _ => exact ⟨_, rfl, rfl⟩
    | 52, _ => exact ⟨_, rfl, rfl⟩
    | 53, _ => exact ⟨_, rfl, rfl⟩
    | 54, _ => exact ⟨_, rfl, rfl⟩
    | 55, _ => exact ⟨_, rfl, rfl⟩
    | 56, _ => exact ⟨_, rfl, rfl⟩
    | 57, _ => exact ⟨_, rfl, rfl⟩
    | 58, _ => exact ⟨_, rfl, rfl⟩
    | 59, _ => exact ⟨_, rfl, rfl⟩
    | 60, _ => exact ⟨_, rfl, rfl⟩
    | 61, _ => exact ⟨_, rfl, rfl⟩
    | 62, _ => exact ⟨_, rfl, rfl⟩
    | 63, _ => exact ⟨_, rfl, rfl⟩
    | 64, _ => exact ⟨_, rfl, rfl⟩
    | 65, _ => exact ⟨_, rfl, rfl⟩
    | 66, _ => exact ⟨_, rfl, rfl⟩
    | 67, _ => exact ⟨_, rfl, rfl⟩
    | 68, _ => exact ⟨_, rfl, rfl⟩
    | 69, _ => exact ⟨_, rfl, rfl⟩
    | 70, _ => exact ⟨_, rfl, rfl⟩
    | 71, _ => exact ⟨_, rfl, rfl⟩
    | n + 72, h => exact absurd h (by omega)
  refine ⟨fun i => ([h0, q1, q2, q3, q4, q5, q6, q7, q8, q9, q10, q11, q12, q13, q14, q15, q16, q17, q18, q19, q20, q21, q22, q23, q24, q25, q26, q27, q28, q29, q30, q31, q32, q33, q34, q35, q36, q37, q38, q39, q40, q41, q42, q43, q44, q45, q46, q47, q48, q49, q50, q51, q52, q53, q54, q55, q56, q57, q58, q59, q60, q61, q62, q63, q64, q65, q66, q67, q68, q69, q70, q71] : List Nat).getD (plC.getD i 0) 0, rfl, fun i j hi hj e => ?_, fun i hi => ?_, fun i z hz => ?_⟩
  · obtain ⟨x, hx, ex⟩ := hfst i hi
    obtain ⟨y, hy, ey⟩ := hfst j hj
    exact plC_inj i hi j hj (hD.1 _ _ x y hx hy (by rw [ex, ey]; exact e))
  · obtain ⟨x, hx, ex⟩ := hfst i hi
    have h := hD.2 _ x hx
    rw [ex] at h
    exact h
  · have hi : i < 72 := (wld_in hz).1
    have hz2 := wld_at (dA := dA) (q := fun i => ([h0, q1, q2, q3, q4, q5, q6, q7, q8, q9, q10, q11, q12, q13, q14, q15, q16, q17, q18, q19, q20, q21, q22, q23, q24, q25, q26, q27, q28, q29, q30, q31, q32, q33, q34, q35, q36, q37, q38, q39, q40, q41, q42, q43, q44, q45, q46, q47, q48, q49, q50, q51, q52, q53, q54, q55, q56, q57, q58, q59, q60, q61, q62, q63, q64, q65, q66, q67, q68, q69, q70, q71] : List Nat).getD (plC.getD i 0) 0) (w := w0C) (List.getElem?_eq_getElem (l := KC) (i := i) hi)
    rw [hz2] at hz
    obtain rfl := Option.some.inj hz
    have rr_9 : va_at D vwCl (q9, .inl (dA 3, 8, .inr (.inr (.inr (.inr (fun j => some (([h0, q1, q2, q3, q4, q5, q6, q7, q8, q9, q10, q11, q12, q13, q14, q15, q16, q17, q18, q19, q20, q21, q22, q23, q24, q25, q26, q27, q28, q29, q30, q31, q32, q33, q34, q35, q36, q37, q38, q39, q40, q41, q42, q43, q44, q45, q46, q47, q48, q49, q50, q51, q52, q53, q54, q55, q56, q57, q58, q59, q60, q61, q62, q63, q64, q65, q66, q67, q68, q69, q70, q71] : List Nat).getD (plC.getD (32 + j) 0) 0)))))))  H := n_rarr (hP 9 _ rfl) (by intro j hj; match j, hj with | 0, _ => rfl | 1, _ => rfl | 2, _ => rfl | 3, _ => rfl | 4, _ => rfl | 5, _ => rfl | 6, _ => rfl | 7, _ => rfl)
    have rr_10 : va_at D vwCl (q10, .inl (dA 4, 8, .inr (.inr (.inr (.inr (fun j => some (([h0, q1, q2, q3, q4, q5, q6, q7, q8, q9, q10, q11, q12, q13, q14, q15, q16, q17, q18, q19, q20, q21, q22, q23, q24, q25, q26, q27, q28, q29, q30, q31, q32, q33, q34, q35, q36, q37, q38, q39, q40, q41, q42, q43, q44, q45, q46, q47, q48, q49, q50, q51, q52, q53, q54, q55, q56, q57, q58, q59, q60, q61, q62, q63, q64, q65, q66, q67, q68, q69, q70, q71] : List Nat).getD (plC.getD (64 + j) 0) 0)))))))  H := n_rarr (hP 10 _ rfl) (by intro j hj; match j, hj with | 0, _ => rfl | 1, _ => rfl | 2, _ => rfl | 3, _ => rfl | 4, _ => rfl | 5, _ => rfl | 6, _ => rfl | 7, _ => rfl)
    clear hz hz2 hD hfst
    match i, hi with
    | 0, _ => exact hP 0 _ rfl
    | 1, _ => exact hP 1 _ rfl
    | 2, _ => exact hP 2 _ rfl
    | 3, _ => exact hP 3 _ rfl
    | 4, _ => exact hP 4 _ rfl
    | 5, _ => exact hP 5 _ rfl
    | 6, _ => exact hP 6 _ rfl
    | 7, _ => exact hP 7 _ rfl
    | 8, _ => exact hP 8 _ rfl
    | 9, _ => exact rr_9
    | 10, _ => exact rr_10
    | 11, _ => exact hP 11 _ rfl
    | 12, _ => exact hP 12 _ rfl
    | 13, _ => exact hP 13 _ rfl
    | 14, _ => exact hP 14 _ rfl
    | 15, _ => exact hP 15 _ rfl
    | 16, _ => exact hP 16 _ rfl
    | 17, _ => exact hP 17 _ rfl
    | 18, _ => exact hP 18 _ rfl
    | 19, _ => exact hP 19 _ rfl
    | 20, _ => exact hP 20 _ rfl
    | 21, _ => exact hP 21 _ rfl
    | 22, _ => exact hP 22 _ rfl
    | 23, _ => exact hP 23 _ rfl
    | 24, _ => exact hP 24 _ rfl
    | 25, _ => exact hP 25 _ rfl
    | 26, _ => exact hP 26 _ rfl
    | 27, _ => exact hP 27 _ rfl
    | 28, _ => exact hP 28 _ rfl
    | 29, _ => exact hP 29 _ rfl
    | 30, _ => exact hP 30 _ rfl
    | 31, _ => exact hP 31 _ rfl
    | 32, _ => exact hP 32 _ rfl
    | 33, _ => exact hP 36 _ rfl
    | 34, _ => exact hP 40 _ rfl
    | 35, _ => exact hP 44 _ rfl
    | 36, _ => exact hP 48 _ rfl
    | 37, _ => exact hP 52 _ rfl
    | 38, _ => exact hP 56 _ rfl
    | 39, _ => exact hP 60 _ rfl
    | 40, _ => exact hP 33 _ rfl
    | 41, _ => exact hP 37 _ rfl
    | 42, _ => exact hP 41 _ rfl
    | 43, _ => exact hP 45 _ rfl
    | 44, _ => exact hP 49 _ rfl
    | 45, _ => exact hP 53 _ rfl
    | 46, _ => exact hP 57 _ rfl
    | 47, _ => exact hP 61 _ rfl
    | 48, _ => exact hP 34 _ rfl
    | 49, _ => exact hP 38 _ rfl
    | 50, _ => exact hP 42 _ rfl
    | 51, _ => exact hP 46 _ rfl
    | 52, _ => exact hP 50 _ rfl
    | 53, _ => exact hP 54 _ rfl
    | 54, _ => exact hP 58 _ rfl
    | 55, _ => exact hP 62 _ rfl
    | 56, _ => exact hP 35 _ rfl
    | 57, _ => exact hP 39 _ rfl
    | 58, _ => exact hP 43 _ rfl
    | 59, _ => exact hP 47 _ rfl
    | 60, _ => exact hP 51 _ rfl
    | 61, _ => exact hP 55 _ rfl
    | 62, _ => exact hP 59 _ rfl
    | 63, _ => exact hP 63 _ rfl
    | 64, _ => exact hP 64 _ rfl
    | 65, _ => exact hP 65 _ rfl
    | 66, _ => exact hP 66 _ rfl
    | 67, _ => exact hP 67 _ rfl
    | 68, _ => exact hP 68 _ rfl
    | 69, _ => exact hP 69 _ rfl
    | 70, _ => exact hP 70 _ rfl
    | 71, _ => exact hP 71 _ rfl
    | n + 72, h => exact absurd h (by omega)

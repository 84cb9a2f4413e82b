/-! a small number beside a written one -/
theorem qe_0 {a : Nat} (h : a < 2147483648) : (nI a = (0 : Int32)) = (a = 0) := nl_eq (b := 0) h (by decide)
theorem qa_0 {a : Nat} (h : a < 2147483648) : (nI a ≤ (0 : Int32)) = (a ≤ 0) := nl_le (b := 0) h (by decide)
theorem qb_0 {a : Nat} (h : a < 2147483648) : ((0 : Int32) ≤ nI a) = (0 ≤ a) := nl_le (a := 0) (by decide) h
theorem qc_0 {a : Nat} (h : a < 2147483648) : (nI a < (0 : Int32)) = (a < 0) := nl_lt (b := 0) h (by decide)
theorem qd_0 {a : Nat} (h : a < 2147483648) : ((0 : Int32) < nI a) = (0 < a) := nl_lt (a := 0) (by decide) h
theorem qe_1 {a : Nat} (h : a < 2147483648) : (nI a = (1 : Int32)) = (a = 1) := nl_eq (b := 1) h (by decide)
theorem qa_1 {a : Nat} (h : a < 2147483648) : (nI a ≤ (1 : Int32)) = (a ≤ 1) := nl_le (b := 1) h (by decide)
theorem qb_1 {a : Nat} (h : a < 2147483648) : ((1 : Int32) ≤ nI a) = (1 ≤ a) := nl_le (a := 1) (by decide) h
theorem qc_1 {a : Nat} (h : a < 2147483648) : (nI a < (1 : Int32)) = (a < 1) := nl_lt (b := 1) h (by decide)
theorem qd_1 {a : Nat} (h : a < 2147483648) : ((1 : Int32) < nI a) = (1 < a) := nl_lt (a := 1) (by decide) h
theorem qe_2 {a : Nat} (h : a < 2147483648) : (nI a = (2 : Int32)) = (a = 2) := nl_eq (b := 2) h (by decide)
theorem qa_2 {a : Nat} (h : a < 2147483648) : (nI a ≤ (2 : Int32)) = (a ≤ 2) := nl_le (b := 2) h (by decide)
theorem qb_2 {a : Nat} (h : a < 2147483648) : ((2 : Int32) ≤ nI a) = (2 ≤ a) := nl_le (a := 2) (by decide) h
theorem qc_2 {a : Nat} (h : a < 2147483648) : (nI a < (2 : Int32)) = (a < 2) := nl_lt (b := 2) h (by decide)
theorem qd_2 {a : Nat} (h : a < 2147483648) : ((2 : Int32) < nI a) = (2 < a) := nl_lt (a := 2) (by decide) h
theorem qe_3 {a : Nat} (h : a < 2147483648) : (nI a = (3 : Int32)) = (a = 3) := nl_eq (b := 3) h (by decide)
theorem qa_3 {a : Nat} (h : a < 2147483648) : (nI a ≤ (3 : Int32)) = (a ≤ 3) := nl_le (b := 3) h (by decide)
theorem qb_3 {a : Nat} (h : a < 2147483648) : ((3 : Int32) ≤ nI a) = (3 ≤ a) := nl_le (a := 3) (by decide) h
theorem qc_3 {a : Nat} (h : a < 2147483648) : (nI a < (3 : Int32)) = (a < 3) := nl_lt (b := 3) h (by decide)
theorem qd_3 {a : Nat} (h : a < 2147483648) : ((3 : Int32) < nI a) = (3 < a) := nl_lt (a := 3) (by decide) h
theorem qe_4 {a : Nat} (h : a < 2147483648) : (nI a = (4 : Int32)) = (a = 4) := nl_eq (b := 4) h (by decide)
theorem qa_4 {a : Nat} (h : a < 2147483648) : (nI a ≤ (4 : Int32)) = (a ≤ 4) := nl_le (b := 4) h (by decide)
theorem qb_4 {a : Nat} (h : a < 2147483648) : ((4 : Int32) ≤ nI a) = (4 ≤ a) := nl_le (a := 4) (by decide) h
theorem qc_4 {a : Nat} (h : a < 2147483648) : (nI a < (4 : Int32)) = (a < 4) := nl_lt (b := 4) h (by decide)
theorem qd_4 {a : Nat} (h : a < 2147483648) : ((4 : Int32) < nI a) = (4 < a) := nl_lt (a := 4) (by decide) h
theorem qe_5 {a : Nat} (h : a < 2147483648) : (nI a = (5 : Int32)) = (a = 5) := nl_eq (b := 5) h (by decide)
theorem qa_5 {a : Nat} (h : a < 2147483648) : (nI a ≤ (5 : Int32)) = (a ≤ 5) := nl_le (b := 5) h (by decide)
theorem qb_5 {a : Nat} (h : a < 2147483648) : ((5 : Int32) ≤ nI a) = (5 ≤ a) := nl_le (a := 5) (by decide) h
theorem qc_5 {a : Nat} (h : a < 2147483648) : (nI a < (5 : Int32)) = (a < 5) := nl_lt (b := 5) h (by decide)
theorem qd_5 {a : Nat} (h : a < 2147483648) : ((5 : Int32) < nI a) = (5 < a) := nl_lt (a := 5) (by decide) h
theorem qe_6 {a : Nat} (h : a < 2147483648) : (nI a = (6 : Int32)) = (a = 6) := nl_eq (b := 6) h (by decide)
theorem qa_6 {a : Nat} (h : a < 2147483648) : (nI a ≤ (6 : Int32)) = (a ≤ 6) := nl_le (b := 6) h (by decide)
theorem qb_6 {a : Nat} (h : a < 2147483648) : ((6 : Int32) ≤ nI a) = (6 ≤ a) := nl_le (a := 6) (by decide) h
theorem qc_6 {a : Nat} (h : a < 2147483648) : (nI a < (6 : Int32)) = (a < 6) := nl_lt (b := 6) h (by decide)
theorem qd_6 {a : Nat} (h : a < 2147483648) : ((6 : Int32) < nI a) = (6 < a) := nl_lt (a := 6) (by decide) h
theorem qe_8 {a : Nat} (h : a < 2147483648) : (nI a = (8 : Int32)) = (a = 8) := nl_eq (b := 8) h (by decide)
theorem qa_8 {a : Nat} (h : a < 2147483648) : (nI a ≤ (8 : Int32)) = (a ≤ 8) := nl_le (b := 8) h (by decide)
theorem qb_8 {a : Nat} (h : a < 2147483648) : ((8 : Int32) ≤ nI a) = (8 ≤ a) := nl_le (a := 8) (by decide) h
theorem qc_8 {a : Nat} (h : a < 2147483648) : (nI a < (8 : Int32)) = (a < 8) := nl_lt (b := 8) h (by decide)
theorem qd_8 {a : Nat} (h : a < 2147483648) : ((8 : Int32) < nI a) = (8 < a) := nl_lt (a := 8) (by decide) h
theorem qe_10 {a : Nat} (h : a < 2147483648) : (nI a = (10 : Int32)) = (a = 10) := nl_eq (b := 10) h (by decide)
theorem qa_10 {a : Nat} (h : a < 2147483648) : (nI a ≤ (10 : Int32)) = (a ≤ 10) := nl_le (b := 10) h (by decide)
theorem qb_10 {a : Nat} (h : a < 2147483648) : ((10 : Int32) ≤ nI a) = (10 ≤ a) := nl_le (a := 10) (by decide) h
theorem qc_10 {a : Nat} (h : a < 2147483648) : (nI a < (10 : Int32)) = (a < 10) := nl_lt (b := 10) h (by decide)
theorem qd_10 {a : Nat} (h : a < 2147483648) : ((10 : Int32) < nI a) = (10 < a) := nl_lt (a := 10) (by decide) h
theorem qe_20 {a : Nat} (h : a < 2147483648) : (nI a = (20 : Int32)) = (a = 20) := nl_eq (b := 20) h (by decide)
theorem qa_20 {a : Nat} (h : a < 2147483648) : (nI a ≤ (20 : Int32)) = (a ≤ 20) := nl_le (b := 20) h (by decide)
theorem qb_20 {a : Nat} (h : a < 2147483648) : ((20 : Int32) ≤ nI a) = (20 ≤ a) := nl_le (a := 20) (by decide) h
theorem qc_20 {a : Nat} (h : a < 2147483648) : (nI a < (20 : Int32)) = (a < 20) := nl_lt (b := 20) h (by decide)
theorem qd_20 {a : Nat} (h : a < 2147483648) : ((20 : Int32) < nI a) = (20 < a) := nl_lt (a := 20) (by decide) h
theorem qe_24 {a : Nat} (h : a < 2147483648) : (nI a = (24 : Int32)) = (a = 24) := nl_eq (b := 24) h (by decide)
theorem qa_24 {a : Nat} (h : a < 2147483648) : (nI a ≤ (24 : Int32)) = (a ≤ 24) := nl_le (b := 24) h (by decide)
theorem qb_24 {a : Nat} (h : a < 2147483648) : ((24 : Int32) ≤ nI a) = (24 ≤ a) := nl_le (a := 24) (by decide) h
theorem qc_24 {a : Nat} (h : a < 2147483648) : (nI a < (24 : Int32)) = (a < 24) := nl_lt (b := 24) h (by decide)
theorem qd_24 {a : Nat} (h : a < 2147483648) : ((24 : Int32) < nI a) = (24 < a) := nl_lt (a := 24) (by decide) h
theorem qe_40 {a : Nat} (h : a < 2147483648) : (nI a = (40 : Int32)) = (a = 40) := nl_eq (b := 40) h (by decide)
theorem qa_40 {a : Nat} (h : a < 2147483648) : (nI a ≤ (40 : Int32)) = (a ≤ 40) := nl_le (b := 40) h (by decide)
theorem qb_40 {a : Nat} (h : a < 2147483648) : ((40 : Int32) ≤ nI a) = (40 ≤ a) := nl_le (a := 40) (by decide) h
theorem qc_40 {a : Nat} (h : a < 2147483648) : (nI a < (40 : Int32)) = (a < 40) := nl_lt (b := 40) h (by decide)
theorem qd_40 {a : Nat} (h : a < 2147483648) : ((40 : Int32) < nI a) = (40 < a) := nl_lt (a := 40) (by decide) h
theorem qe_41 {a : Nat} (h : a < 2147483648) : (nI a = (41 : Int32)) = (a = 41) := nl_eq (b := 41) h (by decide)
theorem qa_41 {a : Nat} (h : a < 2147483648) : (nI a ≤ (41 : Int32)) = (a ≤ 41) := nl_le (b := 41) h (by decide)
theorem qb_41 {a : Nat} (h : a < 2147483648) : ((41 : Int32) ≤ nI a) = (41 ≤ a) := nl_le (a := 41) (by decide) h
theorem qc_41 {a : Nat} (h : a < 2147483648) : (nI a < (41 : Int32)) = (a < 41) := nl_lt (b := 41) h (by decide)
theorem qd_41 {a : Nat} (h : a < 2147483648) : ((41 : Int32) < nI a) = (41 < a) := nl_lt (a := 41) (by decide) h
theorem qe_48 {a : Nat} (h : a < 2147483648) : (nI a = (48 : Int32)) = (a = 48) := nl_eq (b := 48) h (by decide)
theorem qa_48 {a : Nat} (h : a < 2147483648) : (nI a ≤ (48 : Int32)) = (a ≤ 48) := nl_le (b := 48) h (by decide)
theorem qb_48 {a : Nat} (h : a < 2147483648) : ((48 : Int32) ≤ nI a) = (48 ≤ a) := nl_le (a := 48) (by decide) h
theorem qc_48 {a : Nat} (h : a < 2147483648) : (nI a < (48 : Int32)) = (a < 48) := nl_lt (b := 48) h (by decide)
theorem qd_48 {a : Nat} (h : a < 2147483648) : ((48 : Int32) < nI a) = (48 < a) := nl_lt (a := 48) (by decide) h
theorem qe_57 {a : Nat} (h : a < 2147483648) : (nI a = (57 : Int32)) = (a = 57) := nl_eq (b := 57) h (by decide)
theorem qa_57 {a : Nat} (h : a < 2147483648) : (nI a ≤ (57 : Int32)) = (a ≤ 57) := nl_le (b := 57) h (by decide)
theorem qb_57 {a : Nat} (h : a < 2147483648) : ((57 : Int32) ≤ nI a) = (57 ≤ a) := nl_le (a := 57) (by decide) h
theorem qc_57 {a : Nat} (h : a < 2147483648) : (nI a < (57 : Int32)) = (a < 57) := nl_lt (b := 57) h (by decide)
theorem qd_57 {a : Nat} (h : a < 2147483648) : ((57 : Int32) < nI a) = (57 < a) := nl_lt (a := 57) (by decide) h
theorem qe_59 {a : Nat} (h : a < 2147483648) : (nI a = (59 : Int32)) = (a = 59) := nl_eq (b := 59) h (by decide)
theorem qa_59 {a : Nat} (h : a < 2147483648) : (nI a ≤ (59 : Int32)) = (a ≤ 59) := nl_le (b := 59) h (by decide)
theorem qb_59 {a : Nat} (h : a < 2147483648) : ((59 : Int32) ≤ nI a) = (59 ≤ a) := nl_le (a := 59) (by decide) h
theorem qc_59 {a : Nat} (h : a < 2147483648) : (nI a < (59 : Int32)) = (a < 59) := nl_lt (b := 59) h (by decide)
theorem qd_59 {a : Nat} (h : a < 2147483648) : ((59 : Int32) < nI a) = (59 < a) := nl_lt (a := 59) (by decide) h
theorem qe_60 {a : Nat} (h : a < 2147483648) : (nI a = (60 : Int32)) = (a = 60) := nl_eq (b := 60) h (by decide)
theorem qa_60 {a : Nat} (h : a < 2147483648) : (nI a ≤ (60 : Int32)) = (a ≤ 60) := nl_le (b := 60) h (by decide)
theorem qb_60 {a : Nat} (h : a < 2147483648) : ((60 : Int32) ≤ nI a) = (60 ≤ a) := nl_le (a := 60) (by decide) h
theorem qc_60 {a : Nat} (h : a < 2147483648) : (nI a < (60 : Int32)) = (a < 60) := nl_lt (b := 60) h (by decide)
theorem qd_60 {a : Nat} (h : a < 2147483648) : ((60 : Int32) < nI a) = (60 < a) := nl_lt (a := 60) (by decide) h
theorem qe_97 {a : Nat} (h : a < 2147483648) : (nI a = (97 : Int32)) = (a = 97) := nl_eq (b := 97) h (by decide)
theorem qa_97 {a : Nat} (h : a < 2147483648) : (nI a ≤ (97 : Int32)) = (a ≤ 97) := nl_le (b := 97) h (by decide)
theorem qb_97 {a : Nat} (h : a < 2147483648) : ((97 : Int32) ≤ nI a) = (97 ≤ a) := nl_le (a := 97) (by decide) h
theorem qc_97 {a : Nat} (h : a < 2147483648) : (nI a < (97 : Int32)) = (a < 97) := nl_lt (b := 97) h (by decide)
theorem qd_97 {a : Nat} (h : a < 2147483648) : ((97 : Int32) < nI a) = (97 < a) := nl_lt (a := 97) (by decide) h
theorem qe_98 {a : Nat} (h : a < 2147483648) : (nI a = (98 : Int32)) = (a = 98) := nl_eq (b := 98) h (by decide)
theorem qa_98 {a : Nat} (h : a < 2147483648) : (nI a ≤ (98 : Int32)) = (a ≤ 98) := nl_le (b := 98) h (by decide)
theorem qb_98 {a : Nat} (h : a < 2147483648) : ((98 : Int32) ≤ nI a) = (98 ≤ a) := nl_le (a := 98) (by decide) h
theorem qc_98 {a : Nat} (h : a < 2147483648) : (nI a < (98 : Int32)) = (a < 98) := nl_lt (b := 98) h (by decide)
theorem qd_98 {a : Nat} (h : a < 2147483648) : ((98 : Int32) < nI a) = (98 < a) := nl_lt (a := 98) (by decide) h
theorem qe_100 {a : Nat} (h : a < 2147483648) : (nI a = (100 : Int32)) = (a = 100) := nl_eq (b := 100) h (by decide)
theorem qa_100 {a : Nat} (h : a < 2147483648) : (nI a ≤ (100 : Int32)) = (a ≤ 100) := nl_le (b := 100) h (by decide)
theorem qb_100 {a : Nat} (h : a < 2147483648) : ((100 : Int32) ≤ nI a) = (100 ≤ a) := nl_le (a := 100) (by decide) h
theorem qc_100 {a : Nat} (h : a < 2147483648) : (nI a < (100 : Int32)) = (a < 100) := nl_lt (b := 100) h (by decide)
theorem qd_100 {a : Nat} (h : a < 2147483648) : ((100 : Int32) < nI a) = (100 < a) := nl_lt (a := 100) (by decide) h
theorem qe_101 {a : Nat} (h : a < 2147483648) : (nI a = (101 : Int32)) = (a = 101) := nl_eq (b := 101) h (by decide)
theorem qa_101 {a : Nat} (h : a < 2147483648) : (nI a ≤ (101 : Int32)) = (a ≤ 101) := nl_le (b := 101) h (by decide)
theorem qb_101 {a : Nat} (h : a < 2147483648) : ((101 : Int32) ≤ nI a) = (101 ≤ a) := nl_le (a := 101) (by decide) h
theorem qc_101 {a : Nat} (h : a < 2147483648) : (nI a < (101 : Int32)) = (a < 101) := nl_lt (b := 101) h (by decide)
theorem qd_101 {a : Nat} (h : a < 2147483648) : ((101 : Int32) < nI a) = (101 < a) := nl_lt (a := 101) (by decide) h
theorem qe_104 {a : Nat} (h : a < 2147483648) : (nI a = (104 : Int32)) = (a = 104) := nl_eq (b := 104) h (by decide)
theorem qa_104 {a : Nat} (h : a < 2147483648) : (nI a ≤ (104 : Int32)) = (a ≤ 104) := nl_le (b := 104) h (by decide)
theorem qb_104 {a : Nat} (h : a < 2147483648) : ((104 : Int32) ≤ nI a) = (104 ≤ a) := nl_le (a := 104) (by decide) h
theorem qc_104 {a : Nat} (h : a < 2147483648) : (nI a < (104 : Int32)) = (a < 104) := nl_lt (b := 104) h (by decide)
theorem qd_104 {a : Nat} (h : a < 2147483648) : ((104 : Int32) < nI a) = (104 < a) := nl_lt (a := 104) (by decide) h
theorem qe_108 {a : Nat} (h : a < 2147483648) : (nI a = (108 : Int32)) = (a = 108) := nl_eq (b := 108) h (by decide)
theorem qa_108 {a : Nat} (h : a < 2147483648) : (nI a ≤ (108 : Int32)) = (a ≤ 108) := nl_le (b := 108) h (by decide)
theorem qb_108 {a : Nat} (h : a < 2147483648) : ((108 : Int32) ≤ nI a) = (108 ≤ a) := nl_le (a := 108) (by decide) h
theorem qc_108 {a : Nat} (h : a < 2147483648) : (nI a < (108 : Int32)) = (a < 108) := nl_lt (b := 108) h (by decide)
theorem qd_108 {a : Nat} (h : a < 2147483648) : ((108 : Int32) < nI a) = (108 < a) := nl_lt (a := 108) (by decide) h
theorem qe_109 {a : Nat} (h : a < 2147483648) : (nI a = (109 : Int32)) = (a = 109) := nl_eq (b := 109) h (by decide)
theorem qa_109 {a : Nat} (h : a < 2147483648) : (nI a ≤ (109 : Int32)) = (a ≤ 109) := nl_le (b := 109) h (by decide)
theorem qb_109 {a : Nat} (h : a < 2147483648) : ((109 : Int32) ≤ nI a) = (109 ≤ a) := nl_le (a := 109) (by decide) h
theorem qc_109 {a : Nat} (h : a < 2147483648) : (nI a < (109 : Int32)) = (a < 109) := nl_lt (b := 109) h (by decide)
theorem qd_109 {a : Nat} (h : a < 2147483648) : ((109 : Int32) < nI a) = (109 < a) := nl_lt (a := 109) (by decide) h
theorem qe_113 {a : Nat} (h : a < 2147483648) : (nI a = (113 : Int32)) = (a = 113) := nl_eq (b := 113) h (by decide)
theorem qa_113 {a : Nat} (h : a < 2147483648) : (nI a ≤ (113 : Int32)) = (a ≤ 113) := nl_le (b := 113) h (by decide)
theorem qb_113 {a : Nat} (h : a < 2147483648) : ((113 : Int32) ≤ nI a) = (113 ≤ a) := nl_le (a := 113) (by decide) h
theorem qc_113 {a : Nat} (h : a < 2147483648) : (nI a < (113 : Int32)) = (a < 113) := nl_lt (b := 113) h (by decide)
theorem qd_113 {a : Nat} (h : a < 2147483648) : ((113 : Int32) < nI a) = (113 < a) := nl_lt (a := 113) (by decide) h
theorem qe_114 {a : Nat} (h : a < 2147483648) : (nI a = (114 : Int32)) = (a = 114) := nl_eq (b := 114) h (by decide)
theorem qa_114 {a : Nat} (h : a < 2147483648) : (nI a ≤ (114 : Int32)) = (a ≤ 114) := nl_le (b := 114) h (by decide)
theorem qb_114 {a : Nat} (h : a < 2147483648) : ((114 : Int32) ≤ nI a) = (114 ≤ a) := nl_le (a := 114) (by decide) h
theorem qc_114 {a : Nat} (h : a < 2147483648) : (nI a < (114 : Int32)) = (a < 114) := nl_lt (b := 114) h (by decide)
theorem qd_114 {a : Nat} (h : a < 2147483648) : ((114 : Int32) < nI a) = (114 < a) := nl_lt (a := 114) (by decide) h
theorem qe_116 {a : Nat} (h : a < 2147483648) : (nI a = (116 : Int32)) = (a = 116) := nl_eq (b := 116) h (by decide)
theorem qa_116 {a : Nat} (h : a < 2147483648) : (nI a ≤ (116 : Int32)) = (a ≤ 116) := nl_le (b := 116) h (by decide)
theorem qb_116 {a : Nat} (h : a < 2147483648) : ((116 : Int32) ≤ nI a) = (116 ≤ a) := nl_le (a := 116) (by decide) h
theorem qc_116 {a : Nat} (h : a < 2147483648) : (nI a < (116 : Int32)) = (a < 116) := nl_lt (b := 116) h (by decide)
theorem qd_116 {a : Nat} (h : a < 2147483648) : ((116 : Int32) < nI a) = (116 < a) := nl_lt (a := 116) (by decide) h
theorem qe_120 {a : Nat} (h : a < 2147483648) : (nI a = (120 : Int32)) = (a = 120) := nl_eq (b := 120) h (by decide)
theorem qa_120 {a : Nat} (h : a < 2147483648) : (nI a ≤ (120 : Int32)) = (a ≤ 120) := nl_le (b := 120) h (by decide)
theorem qb_120 {a : Nat} (h : a < 2147483648) : ((120 : Int32) ≤ nI a) = (120 ≤ a) := nl_le (a := 120) (by decide) h
theorem qc_120 {a : Nat} (h : a < 2147483648) : (nI a < (120 : Int32)) = (a < 120) := nl_lt (b := 120) h (by decide)
theorem qd_120 {a : Nat} (h : a < 2147483648) : ((120 : Int32) < nI a) = (120 < a) := nl_lt (a := 120) (by decide) h
theorem qe_122 {a : Nat} (h : a < 2147483648) : (nI a = (122 : Int32)) = (a = 122) := nl_eq (b := 122) h (by decide)
theorem qa_122 {a : Nat} (h : a < 2147483648) : (nI a ≤ (122 : Int32)) = (a ≤ 122) := nl_le (b := 122) h (by decide)
theorem qb_122 {a : Nat} (h : a < 2147483648) : ((122 : Int32) ≤ nI a) = (122 ≤ a) := nl_le (a := 122) (by decide) h
theorem qc_122 {a : Nat} (h : a < 2147483648) : (nI a < (122 : Int32)) = (a < 122) := nl_lt (b := 122) h (by decide)
theorem qd_122 {a : Nat} (h : a < 2147483648) : ((122 : Int32) < nI a) = (122 < a) := nl_lt (a := 122) (by decide) h
theorem qe_156 {a : Nat} (h : a < 2147483648) : (nI a = (156 : Int32)) = (a = 156) := nl_eq (b := 156) h (by decide)
theorem qa_156 {a : Nat} (h : a < 2147483648) : (nI a ≤ (156 : Int32)) = (a ≤ 156) := nl_le (b := 156) h (by decide)
theorem qb_156 {a : Nat} (h : a < 2147483648) : ((156 : Int32) ≤ nI a) = (156 ≤ a) := nl_le (a := 156) (by decide) h
theorem qc_156 {a : Nat} (h : a < 2147483648) : (nI a < (156 : Int32)) = (a < 156) := nl_lt (b := 156) h (by decide)
theorem qd_156 {a : Nat} (h : a < 2147483648) : ((156 : Int32) < nI a) = (156 < a) := nl_lt (a := 156) (by decide) h
theorem qe_1000 {a : Nat} (h : a < 2147483648) : (nI a = (1000 : Int32)) = (a = 1000) := nl_eq (b := 1000) h (by decide)
theorem qa_1000 {a : Nat} (h : a < 2147483648) : (nI a ≤ (1000 : Int32)) = (a ≤ 1000) := nl_le (b := 1000) h (by decide)
theorem qb_1000 {a : Nat} (h : a < 2147483648) : ((1000 : Int32) ≤ nI a) = (1000 ≤ a) := nl_le (a := 1000) (by decide) h
theorem qc_1000 {a : Nat} (h : a < 2147483648) : (nI a < (1000 : Int32)) = (a < 1000) := nl_lt (b := 1000) h (by decide)
theorem qd_1000 {a : Nat} (h : a < 2147483648) : ((1000 : Int32) < nI a) = (1000 < a) := nl_lt (a := 1000) (by decide) h
theorem qe_10000 {a : Nat} (h : a < 2147483648) : (nI a = (10000 : Int32)) = (a = 10000) := nl_eq (b := 10000) h (by decide)
theorem qa_10000 {a : Nat} (h : a < 2147483648) : (nI a ≤ (10000 : Int32)) = (a ≤ 10000) := nl_le (b := 10000) h (by decide)
theorem qb_10000 {a : Nat} (h : a < 2147483648) : ((10000 : Int32) ≤ nI a) = (10000 ≤ a) := nl_le (a := 10000) (by decide) h
theorem qc_10000 {a : Nat} (h : a < 2147483648) : (nI a < (10000 : Int32)) = (a < 10000) := nl_lt (b := 10000) h (by decide)
theorem qd_10000 {a : Nat} (h : a < 2147483648) : ((10000 : Int32) < nI a) = (10000 < a) := nl_lt (a := 10000) (by decide) h
theorem n0 : nI 0 = (0 : Int32) := rfl
theorem n1 : nI 1 = (1 : Int32) := rfl
theorem n2 : nI 2 = (2 : Int32) := rfl
theorem n3 : nI 3 = (3 : Int32) := rfl
theorem n4 : nI 4 = (4 : Int32) := rfl
theorem n5 : nI 5 = (5 : Int32) := rfl
theorem n6 : nI 6 = (6 : Int32) := rfl
theorem n8 : nI 8 = (8 : Int32) := rfl
theorem n10 : nI 10 = (10 : Int32) := rfl
theorem n20 : nI 20 = (20 : Int32) := rfl
theorem n24 : nI 24 = (24 : Int32) := rfl
theorem n40 : nI 40 = (40 : Int32) := rfl
theorem n41 : nI 41 = (41 : Int32) := rfl
theorem n48 : nI 48 = (48 : Int32) := rfl
theorem n57 : nI 57 = (57 : Int32) := rfl
theorem n59 : nI 59 = (59 : Int32) := rfl
theorem n60 : nI 60 = (60 : Int32) := rfl
theorem n97 : nI 97 = (97 : Int32) := rfl
theorem n98 : nI 98 = (98 : Int32) := rfl
theorem n100 : nI 100 = (100 : Int32) := rfl
theorem n101 : nI 101 = (101 : Int32) := rfl
theorem n104 : nI 104 = (104 : Int32) := rfl
theorem n108 : nI 108 = (108 : Int32) := rfl
theorem n109 : nI 109 = (109 : Int32) := rfl
theorem n113 : nI 113 = (113 : Int32) := rfl
theorem n114 : nI 114 = (114 : Int32) := rfl
theorem n116 : nI 116 = (116 : Int32) := rfl
theorem n120 : nI 120 = (120 : Int32) := rfl
theorem n122 : nI 122 = (122 : Int32) := rfl
theorem n156 : nI 156 = (156 : Int32) := rfl
theorem n1000 : nI 1000 = (1000 : Int32) := rfl
theorem n10000 : nI 10000 = (10000 : Int32) := rfl

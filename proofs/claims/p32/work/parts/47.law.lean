section WALKS
variable {p : Program} {l : Launch} {e : Env} {s : State} {m : MethodId} {args : Array Value} {below : List Frame} {meth : Method} {c : Code} {Q : State → Prop} {D : va_G} {dA : Nat → ClassId} {q : Nat → Nat} {A : Nat → Prop}
/-! BallotscriptLaw.law([I)Z l_law -/
def l_law_b1666 (xs : Nat → Int32) (L : Nat) (l7 : Int32) (w : Wt) : Option (Int32 × Wt) := gd (bob l7) (some (l7, w))
def l_law_b1660 (xs : Nat → Int32) (L : Nat) (l7 : Int32) (l9 : Int32) (l10 : Int32) (l11 : Int32) (l12 : Int32) (w : Wt) : Option ((Int32 × Int32 × Int32 × Int32 × Int32 × Wt) ⊕ ((Int32 × Wt) ⊕ (Int32 × Wt))) := some (.inl (l7, l9, l10, l11, (l12 + 1), w))
def l_law_b1642 (xs : Nat → Int32) (L : Nat) (l9 : Int32) (l10 : Int32) (l11 : Int32) (l12 : Int32) (l19 : Int32) (l20 : Int32) (t0 : Int32) (w : Wt) : Option ((Int32 × Int32) ⊕ Int32) := (if t0 = l20 then some (.inl ((1 : Int32), (l19 + 1))) else some (.inl ((0 : Int32), (l19 + 1))))
def l_law_b1627 (xs : Nat → Int32) (L : Nat) (l9 : Int32) (l10 : Int32) (l11 : Int32) (l12 : Int32) (l19 : Int32) (l20 : Int32) (w : Wt) : Option ((Int32 × Int32) ⊕ Int32) := Option.bind (l_why l19 w) fun x3 => (if x3 = (1 : Int32) then l_law_b1642 xs L l9 l10 l11 l12 l19 l20 (1 : Int32) w else l_law_b1642 xs L l9 l10 l11 l12 l19 l20 (0 : Int32) w)
def l_law_L1589 (xs : Nat → Int32) (L : Nat) (l9 : Int32) (l10 : Int32) (l11 : Int32) (l12 : Int32) (l19 : Int32) (w : Wt) : (Int32 × Int32) → Option ((Int32 × Int32) ⊕ Int32)
  | (l20, l21) => (if l10 ≤ l21 then some (.inr l20) else (if l20 = (0 : Int32) then gd (inb l21 48) (gd (inb l19 48) ((if (w 76 (l21).toNatClampNeg) = (w 76 (l19).toNatClampNeg) then some (.inl ((1 : Int32), (l21 + 1))) else some (.inl ((0 : Int32), (l21 + 1)))))) else some (.inl ((1 : Int32), (l21 + 1)))))
def l_law_x1589 (xs : Nat → Int32) (L : Nat) (l9 : Int32) (l10 : Int32) (l11 : Int32) (l12 : Int32) (l19 : Int32) (w : Wt) : Int32 → Option ((Int32 × Int32) ⊕ Int32)
  | l20 => l_law_b1627 xs L l9 l10 l11 l12 l19 l20 w
def l_law_L1568 (xs : Nat → Int32) (L : Nat) (l9 : Int32) (l10 : Int32) (l11 : Int32) (l12 : Int32) (w : Wt) : (Int32 × Int32) → Option ((Int32 × Int32) ⊕ Int32)
  | (l7, l19) => (if l10 ≤ l19 then some (.inr l7) else (if l7 = (0 : Int32) then some (.inr l7) else nmd (l19 + (1 : Int32)) fun v12 => Option.bind (lp (l_law_L1589 xs L l9 l10 l11 l12 l19 w) 49 ((0 : Int32), v12)) (l_law_x1589 xs L l9 l10 l11 l12 l19 w)))
def l_law_x1568 (xs : Nat → Int32) (L : Nat) (l9 : Int32) (l10 : Int32) (l11 : Int32) (l12 : Int32) (w : Wt) : Int32 → Option ((Int32 × Int32 × Int32 × Int32 × Int32 × Wt) ⊕ ((Int32 × Wt) ⊕ (Int32 × Wt)))
  | l7 => l_law_b1660 xs L l7 l9 l10 l11 l12 w
def l_law_b1563 (xs : Nat → Int32) (L : Nat) (l9 : Int32) (l10 : Int32) (l11 : Int32) (l12 : Int32) (t0 : Int32) (w : Wt) : Option ((Int32 × Int32 × Int32 × Int32 × Int32 × Wt) ⊕ ((Int32 × Wt) ⊕ (Int32 × Wt))) := Option.bind (lp (l_law_L1568 xs L l9 l10 l11 l12 w) 49 (t0, (0 : Int32))) (l_law_x1568 xs L l9 l10 l11 l12 w)
def l_law_b1562 (xs : Nat → Int32) (L : Nat) (l9 : Int32) (l10 : Int32) (l11 : Int32) (l12 : Int32) (w : Wt) : Option ((Int32 × Int32 × Int32 × Int32 × Int32 × Wt) ⊕ ((Int32 × Wt) ⊕ (Int32 × Wt))) := l_law_b1563 xs L l9 l10 l11 l12 (0 : Int32) w
def l_law_b1544 (xs : Nat → Int32) (L : Nat) (l7 : Int32) (l9 : Int32) (l10 : Int32) (l11 : Int32) (l12 : Int32) (l18 : Int32) (w : Wt) : Option ((Int32 × Int32 × Int32 × Int32 × Int32 × Wt) ⊕ ((Int32 × Wt) ⊕ (Int32 × Wt))) := (if l7 = (0 : Int32) then l_law_b1562 xs L l9 l10 l11 l12 w else Option.bind (f_Ballotscript_stale w) fun x14 => nmd (jn x14.2 w) fun w15 => (if x14.1 = l18 then l_law_b1563 xs L l9 l10 l11 l12 (1 : Int32) w15 else l_law_b1562 xs L l9 l10 l11 l12 w15))
def l_law_b1499 (xs : Nat → Int32) (L : Nat) (l9 : Int32) (l10 : Int32) (l11 : Int32) (l12 : Int32) (l16 : Int32) (l18 : Int32) (l19 : Int32) (t0 : Int32) (w : Wt) : Option ((Int32 × Int32 × Int32 × Wt) ⊕ (Int32 × Int32 × Wt)) := (if t0 = (0 : Int32) then nmd (l18 + (0 : Int32)) fun v18 => some (.inl (t0, v18, (l19 + 1), w)) else gd (inb l19 8) ((if (w 75 (l19).toNatClampNeg) < (0 : Int32) then nmd (l18 + (0 : Int32)) fun v21 => some (.inl (t0, v21, (l19 + 1), w)) else gd (inb l19 8) (Option.bind (l_winners l19 w) fun x23 => nmd (jn x23.2 w) fun w24 => (if (w 75 (l19).toNatClampNeg) = x23.1 then nmd (l18 + (0 : Int32)) fun v26 => some (.inl (t0, v26, (l19 + 1), w24)) else nmd (l18 + (1 : Int32)) fun v27 => some (.inl (t0, v27, (l19 + 1), w24)))))))
def l_law_b1498 (xs : Nat → Int32) (L : Nat) (l9 : Int32) (l10 : Int32) (l11 : Int32) (l12 : Int32) (l16 : Int32) (l18 : Int32) (l19 : Int32) (w : Wt) : Option ((Int32 × Int32 × Int32 × Wt) ⊕ (Int32 × Int32 × Wt)) := l_law_b1499 xs L l9 l10 l11 l12 l16 l18 l19 (0 : Int32) w
def l_law_b1494 (xs : Nat → Int32) (L : Nat) (l9 : Int32) (l10 : Int32) (l11 : Int32) (l12 : Int32) (l16 : Int32) (l18 : Int32) (l19 : Int32) (w : Wt) : Option ((Int32 × Int32 × Int32 × Wt) ⊕ (Int32 × Int32 × Wt)) := l_law_b1499 xs L l9 l10 l11 l12 l16 l18 l19 (1 : Int32) w
def l_law_b1474 (xs : Nat → Int32) (L : Nat) (l9 : Int32) (l10 : Int32) (l11 : Int32) (l12 : Int32) (l16 : Int32) (l18 : Int32) (l19 : Int32) (w : Wt) : Option ((Int32 × Int32 × Int32 × Wt) ⊕ (Int32 × Int32 × Wt)) := gd (inb l19 8) (gd (inb l19 8) (Option.bind (l_fits l19 (w 73 (l19).toNatClampNeg) (w 74 (l19).toNatClampNeg) l12 w) fun x30 => nmd x30.2 fun w31 => (if x30.1 = (0 : Int32) then l_law_b1498 xs L l9 l10 l11 l12 l16 l18 l19 w31 else l_law_b1494 xs L l9 l10 l11 l12 l16 l18 l19 w31)))
def l_law_L1434 (xs : Nat → Int32) (L : Nat) (l9 : Int32) (l10 : Int32) (l11 : Int32) (l12 : Int32) (l16 : Int32) : (Int32 × Int32 × Int32 × Wt) → Option ((Int32 × Int32 × Int32 × Wt) ⊕ (Int32 × Int32 × Wt))
  | (l7, l18, l19, w) => (if l9 ≤ l19 then some (.inr (l7, l18, w)) else (if l7 = (0 : Int32) then some (.inr (l7, l18, w)) else Option.bind (l_certified l19 w) fun x35 => gd (inb l19 8) ((if x35 = (w 75 (l19).toNatClampNeg) then (if l19 = l16 then l_law_b1474 xs L l9 l10 l11 l12 l16 l18 l19 w else gd (nzb (4 : Int32)) ((if (0 : Int32) < (l12 - l12 / (4 : Int32) * (4 : Int32)) then l_law_b1494 xs L l9 l10 l11 l12 l16 l18 l19 w else l_law_b1474 xs L l9 l10 l11 l12 l16 l18 l19 w))) else l_law_b1498 xs L l9 l10 l11 l12 l16 l18 l19 w))))
def l_law_x1434 (xs : Nat → Int32) (L : Nat) (l9 : Int32) (l10 : Int32) (l11 : Int32) (l12 : Int32) : (Int32 × Int32 × Wt) → Option ((Int32 × Int32 × Int32 × Int32 × Int32 × Wt) ⊕ ((Int32 × Wt) ⊕ (Int32 × Wt)))
  | (l7, l18, w) => l_law_b1544 xs L l7 l9 l10 l11 l12 l18 w
def l_law_b1428 (xs : Nat → Int32) (L : Nat) (l7 : Int32) (l9 : Int32) (l10 : Int32) (l11 : Int32) (l12 : Int32) (l16 : Int32) (w : Wt) : Option ((Int32 × Int32 × Int32 × Int32 × Int32 × Wt) ⊕ ((Int32 × Wt) ⊕ (Int32 × Wt))) := Option.bind (lp (l_law_L1434 xs L l9 l10 l11 l12 l16) 7 (l7, (0 : Int32), (0 : Int32), w)) (l_law_x1434 xs L l9 l10 l11 l12)
def l_law_b1414 (xs : Nat → Int32) (L : Nat) (l9 : Int32) (l10 : Int32) (l11 : Int32) (l12 : Int32) (l16 : Int32) (l17 : Int32) (w : Wt) : Option ((Int32 × Int32 × Int32 × Int32 × Int32 × Wt) ⊕ ((Int32 × Wt) ⊕ (Int32 × Wt))) := gd (nzb (12 : Int32)) (Option.bind (l_isFault ((1 : Int32) + (l17 - l17 / (12 : Int32) * (12 : Int32))) w) fun x42 => nmd x42.2 fun w43 => nmd x42.1 fun v44 => l_law_b1428 xs L v44 l9 l10 l11 l12 l16 w43)
def l_law_L1372 (xs : Nat → Int32) (L : Nat) (l9 : Int32) (l10 : Int32) (l11 : Int32) (l12 : Int32) (l16 : Int32) (l17 : Int32) : (Int32 × Wt) → Option ((Int32 × Wt) ⊕ Wt)
  | (l18, w) => (if (12 : Int32) ≤ l18 then some (.inr w) else gd (nzb (63 : Int32)) (Option.bind (l_cell xs L ((l12 + ((5 : Int32) * l18)) - (l12 + ((5 : Int32) * l18)) / (63 : Int32) * (63 : Int32))) fun x47 => gd (nzb (3 : Int32)) (Option.bind (l_sign ((x47 / (3 : Int32)) + ((7 : Int32) * l18))) fun x49 => gd (inb l18 24) (nmd (upd2 w 72 (l18).toNatClampNeg x49) fun w51 => some (.inl ((l18 + 1), w51))))))
def l_law_x1372 (xs : Nat → Int32) (L : Nat) (l9 : Int32) (l10 : Int32) (l11 : Int32) (l12 : Int32) (l16 : Int32) (l17 : Int32) : Wt → Option ((Int32 × Int32 × Int32 × Int32 × Int32 × Wt) ⊕ ((Int32 × Wt) ⊕ (Int32 × Wt)))
  | w => l_law_b1414 xs L l9 l10 l11 l12 l16 l17 w
def l_law_b1364 (xs : Nat → Int32) (L : Nat) (l9 : Int32) (l10 : Int32) (l11 : Int32) (l12 : Int32) (l16 : Int32) (t0 : Int32) (w : Wt) : Option ((Int32 × Int32 × Int32 × Int32 × Int32 × Wt) ⊕ ((Int32 × Wt) ⊕ (Int32 × Wt))) := l_law_b1428 xs L t0 l9 l10 l11 l12 l16 w
def l_law_b1363 (xs : Nat → Int32) (L : Nat) (l9 : Int32) (l10 : Int32) (l11 : Int32) (l12 : Int32) (l16 : Int32) (w : Wt) : Option ((Int32 × Int32 × Int32 × Int32 × Int32 × Wt) ⊕ ((Int32 × Wt) ⊕ (Int32 × Wt))) := l_law_b1364 xs L l9 l10 l11 l12 l16 (0 : Int32) w
def l_law_b1334 (xs : Nat → Int32) (L : Nat) (l9 : Int32) (l10 : Int32) (l11 : Int32) (l12 : Int32) (l16 : Int32) (l17 : Int32) (t0 : Int32) (w : Wt) : Option ((Int32 × Int32 × Int32 × Int32 × Int32 × Wt) ⊕ ((Int32 × Wt) ⊕ (Int32 × Wt))) := (if t0 < (0 : Int32) then l_law_b1363 xs L l9 l10 l11 l12 l16 w else (if l9 < t0 then l_law_b1363 xs L l9 l10 l11 l12 l16 w else gd (nzb (3 : Int32)) (Option.bind (l_mend (l17 - l17 / (3 : Int32) * (3 : Int32)) w) fun x55 => nmd (jn x55.2 w) fun w56 => (if x55.1 = (0 : Int32) then l_law_b1364 xs L l9 l10 l11 l12 l16 (1 : Int32) w56 else l_law_b1363 xs L l9 l10 l11 l12 l16 w56))))
def l_law_b1284 (xs : Nat → Int32) (L : Nat) (l9 : Int32) (l10 : Int32) (l11 : Int32) (l12 : Int32) (l16 : Int32) (l18 : Int32) (t0 : Int32) (w : Wt) : Option ((Int32 × Int32 × Int32 × Int32 × Int32 × Wt) ⊕ ((Int32 × Wt) ⊕ (Int32 × Wt))) := gd (inb l16 8) (nmd (upd2 w 75 (l16).toNatClampNeg l18) fun w59 => l_law_b1428 xs L t0 l9 l10 l11 l12 l16 w59)
def l_law_b1283 (xs : Nat → Int32) (L : Nat) (l9 : Int32) (l10 : Int32) (l11 : Int32) (l12 : Int32) (l16 : Int32) (l18 : Int32) (w : Wt) : Option ((Int32 × Int32 × Int32 × Int32 × Int32 × Wt) ⊕ ((Int32 × Wt) ⊕ (Int32 × Wt))) := l_law_b1284 xs L l9 l10 l11 l12 l16 l18 (0 : Int32) w
def l_law_b1268 (xs : Nat → Int32) (L : Nat) (l9 : Int32) (l10 : Int32) (l11 : Int32) (l12 : Int32) (l16 : Int32) (l18 : Int32) (w : Wt) : Option ((Int32 × Int32 × Int32 × Int32 × Int32 × Wt) ⊕ ((Int32 × Wt) ⊕ (Int32 × Wt))) := Option.bind (l_certified l16 w) fun x60 => (if x60 = l18 then l_law_b1284 xs L l9 l10 l11 l12 l16 l18 (1 : Int32) w else l_law_b1283 xs L l9 l10 l11 l12 l16 l18 w)
def l_law_b1197 (xs : Nat → Int32) (L : Nat) (l9 : Int32) (l10 : Int32) (l11 : Int32) (l12 : Int32) (l16 : Int32) (t0 : Int32) (w : Wt) : Option ((Int32 × Int32 × Int32 × Int32 × Int32 × Wt) ⊕ ((Int32 × Wt) ⊕ (Int32 × Wt))) := Option.bind (l_winners l16 w) fun x62 => nmd (jn x62.2 w) fun w63 => nmd x62.1 fun v64 => Option.bind (l_certify l16 w63) fun x65 => nmd (jn x65.2 w63) fun w66 => nmd x65.1 fun v67 => (if t0 = (0 : Int32) then l_law_b1283 xs L l9 l10 l11 l12 l16 v64 w66 else (if v67 = (-103 : Int32) then Option.bind (l_close l16 w66) fun x74 => nmd (jn x74.2 w66) fun w75 => (if x74.1 < (0 : Int32) then l_law_b1283 xs L l9 l10 l11 l12 l16 v64 w75 else Option.bind (l_certify l16 w75) fun x77 => nmd (jn x77.2 w75) fun w78 => (if x77.1 = v64 then l_law_b1268 xs L l9 l10 l11 l12 l16 v64 w78 else l_law_b1283 xs L l9 l10 l11 l12 l16 v64 w78)) else (if v67 = v64 then Option.bind (l_close l16 w66) fun x71 => nmd (jn x71.2 w66) fun w72 => (if x71.1 = (-103 : Int32) then l_law_b1268 xs L l9 l10 l11 l12 l16 v64 w72 else l_law_b1283 xs L l9 l10 l11 l12 l16 v64 w72) else l_law_b1283 xs L l9 l10 l11 l12 l16 v64 w66)))
def l_law_b1196 (xs : Nat → Int32) (L : Nat) (l9 : Int32) (l10 : Int32) (l11 : Int32) (l12 : Int32) (l16 : Int32) (w : Wt) : Option ((Int32 × Int32 × Int32 × Int32 × Int32 × Wt) ⊕ ((Int32 × Wt) ⊕ (Int32 × Wt))) := l_law_b1197 xs L l9 l10 l11 l12 l16 (0 : Int32) w
def l_law_b1162 (xs : Nat → Int32) (L : Nat) (l9 : Int32) (l10 : Int32) (l11 : Int32) (l12 : Int32) (l16 : Int32) (t0 : Int32) (w : Wt) : Option ((Int32 × Int32 × Int32 × Int32 × Int32 × Wt) ⊕ ((Int32 × Wt) ⊕ (Int32 × Wt))) := l_law_b1428 xs L t0 l9 l10 l11 l12 l16 w
def l_law_b1161 (xs : Nat → Int32) (L : Nat) (l9 : Int32) (l10 : Int32) (l11 : Int32) (l12 : Int32) (l16 : Int32) (w : Wt) : Option ((Int32 × Int32 × Int32 × Int32 × Int32 × Wt) ⊕ ((Int32 × Wt) ⊕ (Int32 × Wt))) := l_law_b1162 xs L l9 l10 l11 l12 l16 (0 : Int32) w
def l_law_b1157 (xs : Nat → Int32) (L : Nat) (l9 : Int32) (l10 : Int32) (l11 : Int32) (l12 : Int32) (l16 : Int32) (w : Wt) : Option ((Int32 × Int32 × Int32 × Int32 × Int32 × Wt) ⊕ ((Int32 × Wt) ⊕ (Int32 × Wt))) := l_law_b1162 xs L l9 l10 l11 l12 l16 (1 : Int32) w
def l_law_b1071 (xs : Nat → Int32) (L : Nat) (l9 : Int32) (l10 : Int32) (l11 : Int32) (l12 : Int32) (l15 : Int32) (l16 : Int32) (l17 : Int32) (w : Wt) : Option ((Int32 × Int32 × Int32 × Int32 × Int32 × Wt) ⊕ ((Int32 × Wt) ⊕ (Int32 × Wt))) := (if l15 = (12 : Int32) then gd (nzb (10000 : Int32)) (gd (nzb (10000 : Int32)) (gd (nzb (20 : Int32)) (Option.bind (l_sample l16 (l17 - l17 / (10000 : Int32) * (10000 : Int32)) ((1 : Int32) + ((l17 / (10000 : Int32)) - (l17 / (10000 : Int32)) / (20 : Int32) * (20 : Int32))) w) fun x101 => nmd (jn x101.2 w) fun w102 => nmd x101.1 fun v103 => (if v103 = (-103 : Int32) then l_law_b1157 xs L l9 l10 l11 l12 l16 w102 else (if v103 < (0 : Int32) then l_law_b1161 xs L l9 l10 l11 l12 l16 w102 else gd (nzb (10000 : Int32)) (gd (nzb (20 : Int32)) ((if ((1 : Int32) + ((l17 / (10000 : Int32)) - (l17 / (10000 : Int32)) / (20 : Int32) * (20 : Int32))) < v103 then l_law_b1161 xs L l9 l10 l11 l12 l16 w102 else gd (nzb (10000 : Int32)) (gd (nzb (10000 : Int32)) (gd (nzb (20 : Int32)) (Option.bind (l_sample l16 (l17 - l17 / (10000 : Int32) * (10000 : Int32)) ((1 : Int32) + ((l17 / (10000 : Int32)) - (l17 / (10000 : Int32)) / (20 : Int32) * (20 : Int32))) w102) fun x112 => nmd (jn x112.2 w102) fun w113 => (if x112.1 = (0 : Int32) then l_law_b1157 xs L l9 l10 l11 l12 l16 w113 else l_law_b1161 xs L l9 l10 l11 l12 l16 w113)))))))))))) else (if l15 = (13 : Int32) then Option.bind (l_recount l16 w) fun x92 => nmd (jn x92.2 w) fun w93 => (if x92.1 < (0 : Int32) then l_law_b1196 xs L l9 l10 l11 l12 l16 w93 else Option.bind (l_recount l16 w93) fun x95 => nmd (jn x95.2 w93) fun w96 => (if x95.1 = (0 : Int32) then l_law_b1197 xs L l9 l10 l11 l12 l16 (1 : Int32) w96 else l_law_b1196 xs L l9 l10 l11 l12 l16 w96)) else (if l15 = (14 : Int32) then Option.bind (l_lays l17 w) fun x83 => nmd x83.2 fun w84 => nmd x83.1 fun v85 => Option.bind (l_types v85 w84) fun x86 => nmd x86.2 fun w87 => (if x86.1 = (0 : Int32) then l_law_b1334 xs L l9 l10 l11 l12 l16 l17 (-99 : Int32) w87 else gd (nzb (3 : Int32)) (Option.bind (l_mend (l17 - l17 / (3 : Int32) * (3 : Int32)) w87) fun x90 => nmd (jn x90.2 w87) fun w91 => l_law_b1334 xs L l9 l10 l11 l12 l16 l17 x90.1 w91)) else Option.bind (lp (l_law_L1372 xs L l9 l10 l11 l12 l16 l17) 13 ((0 : Int32), w)) (l_law_x1372 xs L l9 l10 l11 l12 l16 l17))))
def l_law_b1066 (xs : Nat → Int32) (L : Nat) (l9 : Int32) (l10 : Int32) (l11 : Int32) (l12 : Int32) (l16 : Int32) (t0 : Int32) (w : Wt) : Option ((Int32 × Int32 × Int32 × Int32 × Int32 × Wt) ⊕ ((Int32 × Wt) ⊕ (Int32 × Wt))) := l_law_b1428 xs L t0 l9 l10 l11 l12 l16 w
def l_law_b1050 (xs : Nat → Int32) (L : Nat) (l9 : Int32) (l10 : Int32) (l11 : Int32) (l12 : Int32) (l16 : Int32) (w : Wt) : Option ((Int32 × Int32 × Int32 × Int32 × Int32 × Wt) ⊕ ((Int32 × Wt) ⊕ (Int32 × Wt))) := l_law_b1066 xs L l9 l10 l11 l12 l16 (0 : Int32) w
def l_law_b951 (xs : Nat → Int32) (L : Nat) (l9 : Int32) (l10 : Int32) (l11 : Int32) (l12 : Int32) (l16 : Int32) (t0 : Int32) (w : Wt) : Option ((Int32 × Int32 × Int32 × Int32 × Int32 × Wt) ⊕ ((Int32 × Wt) ⊕ (Int32 × Wt))) := l_law_b1428 xs L t0 l9 l10 l11 l12 l16 w
def l_law_b916 (xs : Nat → Int32) (L : Nat) (l9 : Int32) (l10 : Int32) (l11 : Int32) (l12 : Int32) (l16 : Int32) (l18 : Int32) (l19 : Int32) (l20 : Int32) (w : Wt) : Option ((Int32 × Int32 × Int32 × Int32 × Int32 × Wt) ⊕ ((Int32 × Wt) ⊕ (Int32 × Wt))) := (if (0 : Int32) ≤ l20 then (if l20 = (l18 - l19) then l_law_b951 xs L l9 l10 l11 l12 l16 (1 : Int32) w else l_law_b951 xs L l9 l10 l11 l12 l16 (0 : Int32) w) else (if l18 = l19 then l_law_b951 xs L l9 l10 l11 l12 l16 (1 : Int32) w else l_law_b951 xs L l9 l10 l11 l12 l16 (0 : Int32) w))
def l_law_L884 (xs : Nat → Int32) (L : Nat) (l9 : Int32) (l10 : Int32) (l11 : Int32) (l12 : Int32) (l16 : Int32) (l18 : Int32) (l20 : Int32) (w : Wt) : (Int32 × Int32) → Option ((Int32 × Int32) ⊕ Int32)
  | (l19, l21) => (if l10 ≤ l21 then some (.inr l19) else Option.bind (l_why l21 w) fun x119 => (if x119 = (0 : Int32) then nmd (l19 + (1 : Int32)) fun v122 => some (.inl (v122, (l21 + 1))) else nmd (l19 + (0 : Int32)) fun v121 => some (.inl (v121, (l21 + 1)))))
def l_law_x884 (xs : Nat → Int32) (L : Nat) (l9 : Int32) (l10 : Int32) (l11 : Int32) (l12 : Int32) (l16 : Int32) (l18 : Int32) (l20 : Int32) (w : Wt) : Int32 → Option ((Int32 × Int32 × Int32 × Int32 × Int32 × Wt) ⊕ ((Int32 × Wt) ⊕ (Int32 × Wt)))
  | l19 => l_law_b916 xs L l9 l10 l11 l12 l16 l18 l19 l20 w
def l_law_b876 (xs : Nat → Int32) (L : Nat) (l9 : Int32) (l10 : Int32) (l11 : Int32) (l12 : Int32) (l16 : Int32) (l18 : Int32) (l19 : Int32) (t0 : Int32) (w : Wt) : Option ((Int32 × Int32 × Int32 × Int32 × Int32 × Wt) ⊕ ((Int32 × Wt) ⊕ (Int32 × Wt))) := Option.bind (l_strike t0 w) fun x123 => nmd (jn x123.2 w) fun w124 => nmd x123.1 fun v125 => Option.bind (lp (l_law_L884 xs L l9 l10 l11 l12 l16 l18 v125 w124) 49 (l19, (0 : Int32))) (l_law_x884 xs L l9 l10 l11 l12 l16 l18 v125 w124)
def l_law_b861 (xs : Nat → Int32) (L : Nat) (l9 : Int32) (l10 : Int32) (l11 : Int32) (l12 : Int32) (l16 : Int32) (l17 : Int32) (l18 : Int32) (l19 : Int32) (w : Wt) : Option ((Int32 × Int32 × Int32 × Int32 × Int32 × Wt) ⊕ ((Int32 × Wt) ⊕ (Int32 × Wt))) := (if l11 = (0 : Int32) then l_law_b876 xs L l9 l10 l11 l12 l16 l18 l19 (0 : Int32) w else gd (nzb l11) (l_law_b876 xs L l9 l10 l11 l12 l16 l18 l19 (l17 - l17 / l11 * l11) w))
def l_law_L829 (xs : Nat → Int32) (L : Nat) (l9 : Int32) (l10 : Int32) (l11 : Int32) (l12 : Int32) (l16 : Int32) (l17 : Int32) (l19 : Int32) (w : Wt) : (Int32 × Int32) → Option ((Int32 × Int32) ⊕ Int32)
  | (l18, l20) => (if l10 ≤ l20 then some (.inr l18) else Option.bind (l_why l20 w) fun x129 => (if x129 = (0 : Int32) then nmd (l18 + (1 : Int32)) fun v132 => some (.inl (v132, (l20 + 1))) else nmd (l18 + (0 : Int32)) fun v131 => some (.inl (v131, (l20 + 1)))))
def l_law_x829 (xs : Nat → Int32) (L : Nat) (l9 : Int32) (l10 : Int32) (l11 : Int32) (l12 : Int32) (l16 : Int32) (l17 : Int32) (l19 : Int32) (w : Wt) : Int32 → Option ((Int32 × Int32 × Int32 × Int32 × Int32 × Wt) ⊕ ((Int32 × Wt) ⊕ (Int32 × Wt)))
  | l18 => l_law_b861 xs L l9 l10 l11 l12 l16 l17 l18 l19 w
def l_law_b808 (xs : Nat → Int32) (L : Nat) (l9 : Int32) (l10 : Int32) (l11 : Int32) (l12 : Int32) (l16 : Int32) (t0 : Int32) (w : Wt) : Option ((Int32 × Int32 × Int32 × Int32 × Int32 × Wt) ⊕ ((Int32 × Wt) ⊕ (Int32 × Wt))) := l_law_b1428 xs L t0 l9 l10 l11 l12 l16 w
def l_law_b779 (xs : Nat → Int32) (L : Nat) (l7 : Int32) (l9 : Int32) (l10 : Int32) (l11 : Int32) (l12 : Int32) (l16 : Int32) (w : Wt) : Option ((Int32 × Int32 × Int32 × Int32 × Int32 × Wt) ⊕ ((Int32 × Wt) ⊕ (Int32 × Wt))) := l_law_b1428 xs L l7 l9 l10 l11 l12 l16 w
def l_law_b740 (xs : Nat → Int32) (L : Nat) (l9 : Int32) (l10 : Int32) (l11 : Int32) (l12 : Int32) (l16 : Int32) (t0 : Int32) (w : Wt) : Option ((Int32 × Int32 × Int32 × Int32 × Int32 × Wt) ⊕ ((Int32 × Wt) ⊕ (Int32 × Wt))) := gd (inb l10 48) (nmd (upd2 w 76 (l10).toNatClampNeg ((100 : Int32) * l9)) fun w134 => l_law_b779 xs L t0 (l9 + 1) (l10 + 1) l11 l12 l16 w134)
def l_law_b739 (xs : Nat → Int32) (L : Nat) (l9 : Int32) (l10 : Int32) (l11 : Int32) (l12 : Int32) (l16 : Int32) (w : Wt) : Option ((Int32 × Int32 × Int32 × Int32 × Int32 × Wt) ⊕ ((Int32 × Wt) ⊕ (Int32 × Wt))) := l_law_b740 xs L l9 l10 l11 l12 l16 (0 : Int32) w
def l_law_b691 (xs : Nat → Int32) (L : Nat) (l9 : Int32) (l10 : Int32) (l11 : Int32) (l12 : Int32) (l16 : Int32) (t0 : Int32) (w : Wt) : Option ((Int32 × Int32 × Int32 × Int32 × Int32 × Wt) ⊕ ((Int32 × Wt) ⊕ (Int32 × Wt))) := (if (6 : Int32) ≤ l9 then (if t0 = (0 : Int32) then some (.inr (.inr ((0 : Int32), w))) else Option.bind (f_Ballotscript_stale w) fun x137 => nmd (jn x137.2 w) fun w138 => (if x137.1 < (0 : Int32) then some (.inr (.inr ((0 : Int32), w138))) else some (.inr (.inr ((1 : Int32), w138))))) else gd (inb l9 8) (nmd (upd2 w 73 (l9).toNatClampNeg (6 : Int32)) fun w141 => gd (inb l9 8) (nmd (upd2 w141 74 (l9).toNatClampNeg (1 : Int32)) fun w143 => gd (inb l9 8) (nmd (upd2 w143 75 (l9).toNatClampNeg (-1 : Int32)) fun w145 => (if t0 = (0 : Int32) then l_law_b739 xs L l9 l10 l11 l12 l16 w145 else Option.bind (l_cast l9 (0 : Int32) w145) fun x147 => nmd (jn x147.2 w145) fun w148 => (if x147.1 = l10 then l_law_b740 xs L l9 l10 l11 l12 l16 (1 : Int32) w148 else l_law_b739 xs L l9 l10 l11 l12 l16 w148))))))
def l_law_b686 (xs : Nat → Int32) (L : Nat) (l9 : Int32) (l10 : Int32) (l11 : Int32) (l12 : Int32) (l16 : Int32) (w : Wt) : Option ((Int32 × Int32 × Int32 × Int32 × Int32 × Wt) ⊕ ((Int32 × Wt) ⊕ (Int32 × Wt))) := l_law_b691 xs L l9 l10 l11 l12 l16 (1 : Int32) w
def l_law_b653 (xs : Nat → Int32) (L : Nat) (l7 : Int32) (l9 : Int32) (l10 : Int32) (l11 : Int32) (l12 : Int32) (l16 : Int32) (w : Wt) : Option ((Int32 × Int32 × Int32 × Int32 × Int32 × Wt) ⊕ ((Int32 × Wt) ⊕ (Int32 × Wt))) := (if l7 = (0 : Int32) then l_law_b779 xs L l7 l9 l10 l11 l12 l16 w else (if (48 : Int32) ≤ l10 then l_law_b779 xs L l7 l9 l10 l11 l12 l16 w else (if l9 = (6 : Int32) then l_law_b686 xs L l9 l10 l11 l12 l16 w else Option.bind (l_open (0 : Int32) (6 : Int32) (1 : Int32) (0 : Int32) w) fun x153 => nmd (jn x153.2 w) fun w154 => (if x153.1 = l9 then l_law_b686 xs L l9 l10 l11 l12 l16 w154 else l_law_b691 xs L l9 l10 l11 l12 l16 (0 : Int32) w154))))
def l_law_b616 (xs : Nat → Int32) (L : Nat) (l9 : Int32) (l10 : Int32) (l11 : Int32) (l12 : Int32) (l16 : Int32) (l17 : Int32) (l20 : Int32) (t0 : Int32) (w : Wt) : Option ((Int32 × Int32 × Int32 × Int32 × Int32 × Wt) ⊕ ((Int32 × Wt) ⊕ (Int32 × Wt))) := (if t0 = (0 : Int32) then l_law_b653 xs L t0 l9 l10 l11 l12 l16 w else (if l20 < (0 : Int32) then l_law_b653 xs L t0 l9 l10 l11 l12 l16 w else gd (nzb (49 : Int32)) (gd (nzb (8 : Int32)) (gd (inb l10 48) (nmd (upd2 w 76 (l10).toNatClampNeg (((100 : Int32) * l16) + ((l17 / (49 : Int32)) - (l17 / (49 : Int32)) / (8 : Int32) * (8 : Int32)))) fun w161 => l_law_b779 xs L t0 l9 (l10 + 1) l11 l12 l16 w161)))))
def l_law_b615 (xs : Nat → Int32) (L : Nat) (l9 : Int32) (l10 : Int32) (l11 : Int32) (l12 : Int32) (l16 : Int32) (l17 : Int32) (l20 : Int32) (w : Wt) : Option ((Int32 × Int32 × Int32 × Int32 × Int32 × Wt) ⊕ ((Int32 × Wt) ⊕ (Int32 × Wt))) := l_law_b616 xs L l9 l10 l11 l12 l16 l17 l20 (0 : Int32) w
def l_law_b611 (xs : Nat → Int32) (L : Nat) (l9 : Int32) (l10 : Int32) (l11 : Int32) (l12 : Int32) (l16 : Int32) (l17 : Int32) (l20 : Int32) (w : Wt) : Option ((Int32 × Int32 × Int32 × Int32 × Int32 × Wt) ⊕ ((Int32 × Wt) ⊕ (Int32 × Wt))) := l_law_b616 xs L l9 l10 l11 l12 l16 l17 l20 (1 : Int32) w
def l_law_b604 (xs : Nat → Int32) (L : Nat) (l9 : Int32) (l10 : Int32) (l11 : Int32) (l12 : Int32) (l16 : Int32) (l17 : Int32) (l20 : Int32) (w : Wt) : Option ((Int32 × Int32 × Int32 × Int32 × Int32 × Wt) ⊕ ((Int32 × Wt) ⊕ (Int32 × Wt))) := (if l20 = (-103 : Int32) then l_law_b611 xs L l9 l10 l11 l12 l16 l17 l20 w else l_law_b615 xs L l9 l10 l11 l12 l16 l17 l20 w)
def l_law_b509 (xs : Nat → Int32) (L : Nat) (l7 : Int32) (l9 : Int32) (l10 : Int32) (l11 : Int32) (l12 : Int32) (l16 : Int32) (l17 : Int32) (l19 : Int32) (w : Wt) : Option ((Int32 × Int32 × Int32 × Int32 × Int32 × Wt) ⊕ ((Int32 × Wt) ⊕ (Int32 × Wt))) := gd (nzb (49 : Int32)) (gd (nzb (8 : Int32)) (Option.bind (l_cast l16 ((l17 / (49 : Int32)) - (l17 / (49 : Int32)) / (8 : Int32) * (8 : Int32)) w) fun x165 => nmd (jn x165.2 w) fun w166 => nmd x165.1 fun v167 => (if l7 = (0 : Int32) then l_law_b615 xs L l9 l10 l11 l12 l16 l17 v167 w166 else (if (48 : Int32) ≤ l10 then l_law_b604 xs L l9 l10 l11 l12 l16 l17 v167 w166 else Option.bind (l_certified l16 w166) fun x170 => (if x170 < (-1 : Int32) then l_law_b604 xs L l9 l10 l11 l12 l16 l17 v167 w166 else (if v167 < (0 : Int32) then l_law_b604 xs L l9 l10 l11 l12 l16 l17 v167 w166 else (if v167 = l10 then Option.bind (l_why v167 w166) fun x174 => (if x174 = (1 : Int32) then l_law_b615 xs L l9 l10 l11 l12 l16 l17 v167 w166 else Option.bind (l_read v167 (l19 - (1 : Int32)) w166) fun x176 => (if x176 < (0 : Int32) then l_law_b615 xs L l9 l10 l11 l12 l16 l17 v167 w166 else (if l19 = (6 : Int32) then l_law_b611 xs L l9 l10 l11 l12 l16 l17 v167 w166 else Option.bind (l_read v167 l19 w166) fun x179 => (if x179 = (-1 : Int32) then l_law_b611 xs L l9 l10 l11 l12 l16 l17 v167 w166 else l_law_b615 xs L l9 l10 l11 l12 l16 l17 v167 w166)))) else l_law_b615 xs L l9 l10 l11 l12 l16 l17 v167 w166)))))))
def l_law_b481 (xs : Nat → Int32) (L : Nat) (l9 : Int32) (l10 : Int32) (l11 : Int32) (l12 : Int32) (l16 : Int32) (l17 : Int32) (l18 : Int32) (l19 : Int32) (l21 : Int32) (t0 : Int32) (t1 : Int32) (t2 : Int32) (w : Wt) : Option ((Int32 × Int32 × Wt) ⊕ (Int32 × Wt)) := gd (nzb l18) (Option.bind (l_mark ((t2 + (t1 * t0)) - (t2 + (t1 * t0)) / l18 * l18) w) fun x182 => nmd (jn x182.2 w) fun w183 => (if x182.1 = (l21 + (1 : Int32)) then some (.inl ((1 : Int32), (l21 + 1), w183)) else some (.inl ((0 : Int32), (l21 + 1), w183))))
def l_law_L443 (xs : Nat → Int32) (L : Nat) (l9 : Int32) (l10 : Int32) (l11 : Int32) (l12 : Int32) (l16 : Int32) (l17 : Int32) (l18 : Int32) (l19 : Int32) : (Int32 × Int32 × Wt) → Option ((Int32 × Int32 × Wt) ⊕ (Int32 × Wt))
  | (l7, l21, w) => (if l19 ≤ l21 then some (.inr (l7, w)) else (if l7 = (0 : Int32) then some (.inr (l7, w)) else (if (48 : Int32) ≤ l10 then some (.inr (l7, w)) else gd (nzb (7 : Int32)) ((if l18 = (5 : Int32) then l_law_b481 xs L l9 l10 l11 l12 l16 l17 l18 l19 l21 (2 : Int32) l21 (l17 / (7 : Int32)) w else l_law_b481 xs L l9 l10 l11 l12 l16 l17 l18 l19 l21 (1 : Int32) l21 (l17 / (7 : Int32)) w)))))
def l_law_x443 (xs : Nat → Int32) (L : Nat) (l9 : Int32) (l10 : Int32) (l11 : Int32) (l12 : Int32) (l16 : Int32) (l17 : Int32) (l19 : Int32) : (Int32 × Wt) → Option ((Int32 × Int32 × Int32 × Int32 × Int32 × Wt) ⊕ ((Int32 × Wt) ⊕ (Int32 × Wt)))
  | (l7, w) => l_law_b509 xs L l7 l9 l10 l11 l12 l16 l17 l19 w
def l_law_b409 (xs : Nat → Int32) (L : Nat) (l7 : Int32) (l9 : Int32) (l10 : Int32) (l12 : Int32) (l16 : Int32) (t0 : Int32) (t1 : Int32) (w : Wt) : Option ((Int32 × Int32 × Int32 × Int32 × Int32 × Wt) ⊕ ((Int32 × Wt) ⊕ (Int32 × Wt))) := nmd (t1 + t0) fun v190 => l_law_b1428 xs L l7 l9 l10 v190 l12 l16 w
def l_law_b395 (xs : Nat → Int32) (L : Nat) (l9 : Int32) (l10 : Int32) (l11 : Int32) (l12 : Int32) (l16 : Int32) (l18 : Int32) (t0 : Int32) (w : Wt) : Option ((Int32 × Int32 × Int32 × Int32 × Int32 × Wt) ⊕ ((Int32 × Wt) ⊕ (Int32 × Wt))) := (if l18 = (0 : Int32) then l_law_b409 xs L t0 l9 l10 l12 l16 (0 : Int32) l11 w else l_law_b409 xs L t0 l9 l10 l12 l16 (1 : Int32) l11 w)
def l_law_b394 (xs : Nat → Int32) (L : Nat) (l9 : Int32) (l10 : Int32) (l11 : Int32) (l12 : Int32) (l16 : Int32) (l18 : Int32) (w : Wt) : Option ((Int32 × Int32 × Int32 × Int32 × Int32 × Wt) ⊕ ((Int32 × Wt) ⊕ (Int32 × Wt))) := l_law_b395 xs L l9 l10 l11 l12 l16 l18 (0 : Int32) w
def l_law_b366 (xs : Nat → Int32) (L : Nat) (l9 : Int32) (l10 : Int32) (l11 : Int32) (l12 : Int32) (l16 : Int32) (l17 : Int32) (l18 : Int32) (t0 : Int32) (t1 : Int32) (w : Wt) : Option ((Int32 × Int32 × Int32 × Int32 × Int32 × Wt) ⊕ ((Int32 × Wt) ⊕ (Int32 × Wt))) := (if t1 = t0 then gd (nzb (3 : Int32)) (gd (nzb (3 : Int32)) (gd (nzb (8 : Int32)) (Option.bind (l_allowed (l17 - l17 / (3 : Int32) * (3 : Int32)) ((l17 / (3 : Int32)) - (l17 / (3 : Int32)) / (8 : Int32) * (8 : Int32)) (50 : Int32) w) fun x196 => (if x196 = (1 : Int32) then l_law_b395 xs L l9 l10 l11 l12 l16 l18 (1 : Int32) w else l_law_b394 xs L l9 l10 l11 l12 l16 l18 w)))) else l_law_b394 xs L l9 l10 l11 l12 l16 l18 w)
def l_law_b316 (xs : Nat → Int32) (L : Nat) (l9 : Int32) (l10 : Int32) (l11 : Int32) (l12 : Int32) (l16 : Int32) (l17 : Int32) (t0 : Int32) (w : Wt) : Option ((Int32 × Int32 × Int32 × Int32 × Int32 × Wt) ⊕ ((Int32 × Wt) ⊕ (Int32 × Wt))) := gd (nzb (3 : Int32)) (gd (nzb (3 : Int32)) (gd (nzb (8 : Int32)) (gd (nzb (24 : Int32)) (gd (nzb (50 : Int32)) (gd (nzb (1200 : Int32)) (gd (nzb (900 : Int32)) (Option.bind (l_enter (l17 - l17 / (3 : Int32) * (3 : Int32)) ((l17 / (3 : Int32)) - (l17 / (3 : Int32)) / (8 : Int32) * (8 : Int32)) ((l17 / (24 : Int32)) - (l17 / (24 : Int32)) / (50 : Int32) * (50 : Int32)) ((50 : Int32) + ((l17 / (1200 : Int32)) - (l17 / (1200 : Int32)) / (900 : Int32) * (900 : Int32))) w) fun x205 => nmd (jn x205.2 w) fun w206 => (if t0 = (0 : Int32) then l_law_b366 xs L l9 l10 l11 l12 l16 l17 t0 (-103 : Int32) x205.1 w206 else l_law_b366 xs L l9 l10 l11 l12 l16 l17 t0 l11 x205.1 w206))))))))
def l_law_b298 (xs : Nat → Int32) (L : Nat) (l7 : Int32) (l9 : Int32) (l10 : Int32) (l11 : Int32) (l12 : Int32) (l15 : Int32) (l16 : Int32) (l17 : Int32) (w : Wt) : Option ((Int32 × Int32 × Int32 × Int32 × Int32 × Wt) ⊕ ((Int32 × Wt) ⊕ (Int32 × Wt))) := (if (4 : Int32) ≤ l15 then (if (9 : Int32) ≤ l15 then (if l15 = (9 : Int32) then gd (nzb (12 : Int32)) (Option.bind (l_pass ((1 : Int32) + (l17 - l17 / (12 : Int32) * (12 : Int32))) w) fun x232 => nmd (jn x232.2 w) fun w233 => (if x232.1 ≤ (0 : Int32) then l_law_b808 xs L l9 l10 l11 l12 l16 (0 : Int32) w233 else l_law_b808 xs L l9 l10 l11 l12 l16 (1 : Int32) w233)) else (if l15 = (10 : Int32) then Option.bind (lp (l_law_L829 xs L l9 l10 l11 l12 l16 l17 (0 : Int32) w) 49 ((0 : Int32), (0 : Int32))) (l_law_x829 xs L l9 l10 l11 l12 l16 l17 (0 : Int32) w) else (if l15 = (11 : Int32) then (if l10 ≤ (0 : Int32) then l_law_b1071 xs L l9 l10 l11 l12 l15 l16 l17 w else gd (nzb l10) (nmd (l17 - l17 / l10 * l10) fun v215 => Option.bind (l_read v215 (0 : Int32) w) fun x216 => Option.bind (l_read v215 (1 : Int32) w) fun x217 => Option.bind (l_misread v215 w) fun x218 => nmd (jn x218.2 w) fun w219 => nmd x218.1 fun v220 => (if v220 = (0 : Int32) then Option.bind (l_read v215 (0 : Int32) w219) fun x223 => (if x223 = x217 then Option.bind (l_read v215 (1 : Int32) w219) fun x225 => (if x225 = x216 then (if x217 < (0 : Int32) then l_law_b1050 xs L l9 l10 l11 l12 l16 w219 else Option.bind (l_misread v215 w219) fun x228 => nmd (jn x228.2 w219) fun w229 => (if x228.1 = (-103 : Int32) then l_law_b1066 xs L l9 l10 l11 l12 l16 (1 : Int32) w229 else l_law_b1050 xs L l9 l10 l11 l12 l16 w229)) else l_law_b1050 xs L l9 l10 l11 l12 l16 w219) else l_law_b1050 xs L l9 l10 l11 l12 l16 w219) else (if v220 = (-103 : Int32) then l_law_b1066 xs L l9 l10 l11 l12 l16 (1 : Int32) w219 else l_law_b1066 xs L l9 l10 l11 l12 l16 (0 : Int32) w219)))) else l_law_b1071 xs L l9 l10 l11 l12 l15 l16 l17 w))) else gd (inb l16 8) (nmd (w 73 (l16).toNatClampNeg) fun v236 => gd (nzb v236) (nmd ((1 : Int32) + (l17 - l17 / v236 * v236)) fun v238 => Option.bind (lp (l_law_L443 xs L l9 l10 l11 l12 l16 l17 v236 v238) 7 (l7, (0 : Int32), w)) (l_law_x443 xs L l9 l10 l11 l12 l16 l17 v238)))) else (if (60 : Int32) ≤ l11 then l_law_b316 xs L l9 l10 l11 l12 l16 l17 (0 : Int32) w else l_law_b316 xs L l9 l10 l11 l12 l16 l17 (1 : Int32) w))
def l_law_b290 (xs : Nat → Int32) (L : Nat) (l9 : Int32) (l10 : Int32) (l11 : Int32) (l12 : Int32) (l16 : Int32) (t0 : Int32) (w : Wt) : Option ((Int32 × Int32 × Int32 × Int32 × Int32 × Wt) ⊕ ((Int32 × Wt) ⊕ (Int32 × Wt))) := l_law_b1428 xs L t0 (l9 + 1) l10 l11 l12 l16 w
def l_law_b198 (xs : Nat → Int32) (L : Nat) (l7 : Int32) (l9 : Int32) (l10 : Int32) (l11 : Int32) (l12 : Int32) (l14 : Int32) (l15 : Int32) (t0 : Int32) (w : Wt) : Option ((Int32 × Int32 × Int32 × Int32 × Int32 × Wt) ⊕ ((Int32 × Wt) ⊕ (Int32 × Wt))) := gd (nzb (8 : Int32)) (nmd (l14 / (8 : Int32)) fun v241 => (if l15 = (0 : Int32) then (if (6 : Int32) ≤ l9 then l_law_b298 xs L l7 l9 l10 l11 l12 l15 t0 v241 w else gd (nzb (5 : Int32)) (gd (inb l9 8) (nmd (upd2 w 73 (l9).toNatClampNeg ((2 : Int32) + (v241 - v241 / (5 : Int32) * (5 : Int32)))) fun w246 => gd (nzb (5 : Int32)) (gd (nzb (5 : Int32)) (gd (nzb ((1 : Int32) + (v241 - v241 / (5 : Int32) * (5 : Int32)))) (gd (inb l9 8) (nmd (upd2 w246 74 (l9).toNatClampNeg ((1 : Int32) + ((v241 / (5 : Int32)) - (v241 / (5 : Int32)) / ((1 : Int32) + (v241 - v241 / (5 : Int32) * (5 : Int32))) * ((1 : Int32) + (v241 - v241 / (5 : Int32) * (5 : Int32)))))) fun w251 => gd (inb l9 8) (nmd (upd2 w251 75 (l9).toNatClampNeg (-1 : Int32)) fun w253 => gd (nzb (25 : Int32)) (gd (nzb (3 : Int32)) (gd (inb l9 8) (gd (inb l9 8) (gd (nzb (75 : Int32)) (gd (nzb (3 : Int32)) (Option.bind (l_open ((v241 / (25 : Int32)) - (v241 / (25 : Int32)) / (3 : Int32) * (3 : Int32)) (w253 73 (l9).toNatClampNeg) (w253 74 (l9).toNatClampNeg) ((v241 / (75 : Int32)) - (v241 / (75 : Int32)) / (3 : Int32) * (3 : Int32)) w253) fun x260 => nmd (jn x260.2 w253) fun w261 => (if x260.1 = l9 then l_law_b290 xs L l9 l10 l11 l12 t0 (1 : Int32) w261 else l_law_b290 xs L l9 l10 l11 l12 t0 (0 : Int32) w261))))))))))))))) else l_law_b298 xs L l7 l9 l10 l11 l12 l15 t0 v241 w))
def l_law_b182 (xs : Nat → Int32) (L : Nat) (l7 : Int32) (l9 : Int32) (l10 : Int32) (l11 : Int32) (l12 : Int32) (l14 : Int32) (t0 : Int32) (w : Wt) : Option ((Int32 × Int32 × Int32 × Int32 × Int32 × Wt) ⊕ ((Int32 × Wt) ⊕ (Int32 × Wt))) := (if l9 = (0 : Int32) then l_law_b198 xs L l7 l9 l10 l11 l12 l14 t0 (0 : Int32) w else gd (nzb l9) (l_law_b198 xs L l7 l9 l10 l11 l12 l14 t0 (l14 - l14 / l9 * l9) w))
def l_law_L139 (xs : Nat → Int32) (L : Nat) : (Int32 × Int32 × Int32 × Int32 × Int32 × Wt) → Option ((Int32 × Int32 × Int32 × Int32 × Int32 × Wt) ⊕ ((Int32 × Wt) ⊕ (Int32 × Wt)))
  | (l7, l9, l10, l11, l12, w) => (if (50 : Int32) ≤ l12 then some (.inr (.inl (l7, w))) else (if l7 = (0 : Int32) then some (.inr (.inl (l7, w))) else Option.bind (l_cell xs L ((3 : Int32) + l12)) fun x267 => gd (nzb (16 : Int32)) (nmd (x267 / (16 : Int32)) fun v269 => (if l9 = (0 : Int32) then l_law_b182 xs L l7 l9 l10 l11 l12 v269 (0 : Int32) w else gd (nzb (16 : Int32)) (l_law_b182 xs L l7 l9 l10 l11 l12 v269 (x267 - x267 / (16 : Int32) * (16 : Int32)) w)))))
def l_law_x139 (xs : Nat → Int32) (L : Nat) : ((Int32 × Wt) ⊕ (Int32 × Wt)) → Option (Int32 × Wt)
  | .inl (l7, w) => l_law_b1666 xs L l7 w
  | .inr t => some t
def l_law_b127 (xs : Nat → Int32) (L : Nat) (l7 : Int32) (w : Wt) : Option (Int32 × Wt) := Option.bind (lp (l_law_L139 xs L) 51 (l7, (0 : Int32), (0 : Int32), (0 : Int32), (0 : Int32), w)) (l_law_x139 xs L)
def l_law_L53 (xs : Nat → Int32) (L : Nat) : (Int32 × Int32 × Wt) → Option ((Int32 × Int32 × Wt) ⊕ (Int32 × Wt))
  | (l7, l8, w) => (if (3 : Int32) ≤ l8 then some (.inr (l7, w)) else (if l7 = (0 : Int32) then some (.inr (l7, w)) else Option.bind (l_cell xs L l8) fun x274 => Option.bind (l_lays x274 w) fun x275 => nmd x275.2 fun w276 => nmd x275.1 fun v277 => Option.bind (l_types v277 w276) fun x278 => nmd x278.2 fun w279 => (if x278.1 = (0 : Int32) then some (.inl ((0 : Int32), (l8 + 1), w279)) else Option.bind (f_Ballotscript_fault w279) fun x281 => (if x281 = (-1 : Int32) then Option.bind (l_rule w279) fun x283 => nmd (jn x283.2 w279) fun w284 => (if x283.1 = l8 then Option.bind (l_commands l8 w284) fun x286 => (if x286 = (6 : Int32) then some (.inl ((1 : Int32), (l8 + 1), w284)) else some (.inl ((0 : Int32), (l8 + 1), w284))) else some (.inl ((0 : Int32), (l8 + 1), w284))) else some (.inl ((0 : Int32), (l8 + 1), w279))))))
def l_law_x53 (xs : Nat → Int32) (L : Nat) : (Int32 × Wt) → Option (Int32 × Wt)
  | (l7, w) => l_law_b127 xs L l7 w
def l_law_b48 (xs : Nat → Int32) (L : Nat) (t0 : Int32) (w : Wt) : Option (Int32 × Wt) := Option.bind (lp (l_law_L53 xs L) 4 (t0, (0 : Int32), w)) (l_law_x53 xs L)
def l_law (xs : Nat → Int32) (L : Nat) (w : Wt) : Option (Int32 × Wt) := Option.bind (f_Ballotscript_stale w) fun x288 => nmd (jn x288.2 w) fun w289 => (if x288.1 = (0 : Int32) then l_law_b48 xs L (1 : Int32) w289 else l_law_b48 xs L (0 : Int32) w289)
set_option maxHeartbeats 8000000 in
set_option maxRecDepth 20000 in
theorem k_l_law {R : Room} (xs : Nat → Int32) (L : Nat) (bb : Nat) (w : Wt) (z : (Int32 × Wt)) (hfl : l.stackTraces = false) (hx : p.tables.exec = Jvm.exec) (hb : c.code = code) (hml : c.maxLocals = 22) (C : Cx EVl KL D dA q A s m args RL) (hX : va_X bb L xs s s.heap) (hbl : bb < s.heap.size) (hbA : ¬ A bb) (hRc : 81604 ≤ R.cells) (hRs : 489624 ≤ R.slots) (hRf : 63 ≤ R.frames) (hRl : 1570 ≤ R.locals) (fin : ∀ (H : Heap) (locs : List Loc) (ls : Array Slot) (r' : Int32) (w2 : Wt) (pc cl sl : Nat), cl ≤ 81604 → sl ≤ 489624 → narrow .boolean (.int r') = .int r' → Sta KL D dA q A s.heap w2 H locs → some (r', w2) = some z → decode code pc = .ok (.ireturn, 1) → W p l e R s m args below meth c H locs cl sl Q (F0 m pc ls [.int r'])) : ∀ (H : Heap) (locs : List Loc) (ls : Array Slot), lv_has ls 22 [(0, .ref bb), (1, .ref (q 0)), (2, .ref (q 72)), (3, .ref (q 73)), (4, .ref (q 74)), (5, .ref (q 75)), (6, .ref (q 76))] → Sta KL D dA q A s.heap w H locs → l_law xs L w = some z → W p l e R s m args below meth c H locs 77 4088 Q (F0 m 36 ls []) := by
  have ev : evOk EVl := EVl_ok
  have lab1666 : ∀ (l7 : Int32) (w : Wt) (cl sl : Nat) (hc : cl + 0 ≤ 81604) (hs : sl + 6 * 0 ≤ 489624) (H : Heap) (locs : List Loc) (ls : Array Slot), lv_has ls 22 [(7, .int l7)] → Sta KL D dA q A s.heap w H locs → Option.bind (l_law_b1666 xs L l7 w) some = some z → W p l e R s m args below meth c H locs cl sl Q (F0 m 1666 ls []) := by
    intro l7 w cl sl hc hs H locs ls hl S h
    unfold l_law_b1666 at h
    refine lv_iload hx hb dL_law_1666 (lv_at hl 0 rfl) ?_
    obtain ⟨g1, h⟩ := h_gd h
    exact fin _ _ _ l7 w _ _ _ (by omega) (by omega) (bo_of g1).1 S h dL_law_1668
  have loop139 : ∀ (n139 : Nat), ∀ (l7 : Int32) (l9 : Int32) (l10 : Int32) (l11 : Int32) (l12 : Int32) (w : Wt) (cl sl : Nat) (hc : cl + (n139 * 1572) ≤ 81604) (hs : sl + 6 * (n139 * 1572) ≤ 489624) (H : Heap) (locs : List Loc) (ls : Array Slot), lv_has ls 22 [(0, .ref bb), (1, .ref (q 0)), (2, .ref (q 72)), (3, .ref (q 73)), (4, .ref (q 74)), (5, .ref (q 75)), (6, .ref (q 76)), (7, .int l7), (9, .int l9), (10, .int l10), (11, .int l11), (12, .int l12)] → Sta KL D dA q A s.heap w H locs → Option.bind (lp (l_law_L139 xs L) n139 (l7, l9, l10, l11, l12, w)) (fun x9 => Option.bind (l_law_x139 xs L x9) some) = some z → W p l e R s m args below meth c H locs cl sl Q (F0 m 139 ls []) := by
    intro  n139
    induction n139 with
    | zero =>
      intro l7 l9 l10 l11 l12 w cl sl hc hs H locs ls hl S h
      exact (h_lp0 h).elim
    | succ n139 ih139 =>
      have lab1660 : ∀ (l7 : Int32) (l9 : Int32) (l10 : Int32) (l11 : Int32) (l12 : Int32) (w : Wt) (cl sl : Nat) (hc : cl + (n139 * 1572) ≤ 81604) (hs : sl + 6 * (n139 * 1572) ≤ 489624) (H : Heap) (locs : List Loc) (ls : Array Slot), lv_has ls 22 [(0, .ref bb), (1, .ref (q 0)), (2, .ref (q 72)), (3, .ref (q 73)), (4, .ref (q 74)), (5, .ref (q 75)), (6, .ref (q 76)), (7, .int l7), (9, .int l9), (10, .int l10), (11, .int l11), (12, .int l12)] → Sta KL D dA q A s.heap w H locs → Option.bind (l_law_b1660 xs L l7 l9 l10 l11 l12 w) (seqF (fun s9 => Option.bind (lp (l_law_L139 xs L) n139 s9) (fun x9 => Option.bind (l_law_x139 xs L x9) some)) (fun x9 => Option.bind (l_law_x139 xs L x9) some)) = some z → W p l e R s m args below meth c H locs cl sl Q (F0 m 1660 ls []) := by
        intro l7 l9 l10 l11 l12 w cl sl hc hs H locs ls hl S h
        unfold l_law_b1660 at h
        refine lv_iinc (v := (l12 + 1)) (lv' := [(12, .int (l12 + 1)), (0, .ref bb), (1, .ref (q 0)), (2, .ref (q 72)), (3, .ref (q 73)), (4, .ref (q 74)), (5, .ref (q 75)), (6, .ref (q 76)), (7, .int l7), (9, .int l9), (10, .int l10), (11, .int l11)]) hx hb dL_law_1660 hl (k := 11) rfl rfl (Nat.le_of_ble_eq_true rfl) rfl (fun ls hl => ?_)
        refine lv_goto (tgt := 139) hx hb dL_law_1663 rfl ?_
        exact ih139 l7 l9 l10 l11 (l12 + 1) w _ _ (by omega) (by omega) _ _ _ (lv_sub hl [1, 2, 3, 4, 5, 6, 7, 8, 9, 10, 11, 0] rfl) S h
      have loop1568 : ∀ (l9 : Int32) (l10 : Int32) (l11 : Int32) (l12 : Int32) (w : Wt) (n1568 : Nat), ∀ (l7 : Int32) (l19 : Int32) (cl sl : Nat) (hc : cl + (n1568 * 4 + n139 * 1572) ≤ 81604) (hs : sl + 6 * (n1568 * 4 + n139 * 1572) ≤ 489624) (H : Heap) (locs : List Loc) (ls : Array Slot), lv_has ls 22 [(0, .ref bb), (1, .ref (q 0)), (2, .ref (q 72)), (3, .ref (q 73)), (4, .ref (q 74)), (5, .ref (q 75)), (6, .ref (q 76)), (7, .int l7), (9, .int l9), (10, .int l10), (11, .int l11), (12, .int l12), (19, .int l19)] → Sta KL D dA q A s.heap w H locs → Option.bind (lp (l_law_L1568 xs L l9 l10 l11 l12 w) n1568 (l7, l19)) (fun x9 => Option.bind (l_law_x1568 xs L l9 l10 l11 l12 w x9) (seqF (fun s9 => Option.bind (lp (l_law_L139 xs L) n139 s9) (fun x9 => Option.bind (l_law_x139 xs L x9) some)) (fun x9 => Option.bind (l_law_x139 xs L x9) some))) = some z → W p l e R s m args below meth c H locs cl sl Q (F0 m 1568 ls []) := by
        intro l9 l10 l11 l12 w n1568
        induction n1568 with
        | zero =>
          intro l7 l19 cl sl hc hs H locs ls hl S h
          exact (h_lp0 h).elim
        | succ n1568 ih1568 =>
          have lab1642 : ∀ (l19 : Int32) (l20 : Int32) (t0 : Int32) (cl sl : Nat) (hc : cl + (n1568 * 4 + n139 * 1572) ≤ 81604) (hs : sl + 6 * (n1568 * 4 + n139 * 1572) ≤ 489624) (H : Heap) (locs : List Loc) (ls : Array Slot), lv_has ls 22 [(0, .ref bb), (1, .ref (q 0)), (2, .ref (q 72)), (3, .ref (q 73)), (4, .ref (q 74)), (5, .ref (q 75)), (6, .ref (q 76)), (9, .int l9), (10, .int l10), (11, .int l11), (12, .int l12), (19, .int l19), (20, .int l20)] → Sta KL D dA q A s.heap w H locs → Option.bind (l_law_b1642 xs L l9 l10 l11 l12 l19 l20 t0 w) (seqF (fun s9 => Option.bind (lp (l_law_L1568 xs L l9 l10 l11 l12 w) n1568 s9) (fun x9 => Option.bind (l_law_x1568 xs L l9 l10 l11 l12 w x9) (seqF (fun s9 => Option.bind (lp (l_law_L139 xs L) n139 s9) (fun x9 => Option.bind (l_law_x139 xs L x9) some)) (fun x9 => Option.bind (l_law_x139 xs L x9) some)))) (fun x9 => Option.bind (l_law_x1568 xs L l9 l10 l11 l12 w x9) (seqF (fun s9 => Option.bind (lp (l_law_L139 xs L) n139 s9) (fun x9 => Option.bind (l_law_x139 xs L x9) some)) (fun x9 => Option.bind (l_law_x139 xs L x9) some)))) = some z → W p l e R s m args below meth c H locs cl sl Q (F0 m 1642 ls [.int t0]) := by
            intro l19 l20 t0 cl sl hc hs H locs ls hl S h
            unfold l_law_b1642 at h
            refine lv_iload hx hb dL_law_1642 (lv_at hl 12 rfl) ?_
            refine lv_icmp_ne (tgt := 1651) hx hb dL_law_1644 rfl (fun c2 => ?_) (fun c2 => ?_)
            · have h := h_f c2 h
              refine lv_iconst (v := 0) hx hb dL_law_1651 (by decide) ?_
              refine lv_istore (lv' := [(7, .int (0 : Int32)), (0, .ref bb), (1, .ref (q 0)), (2, .ref (q 72)), (3, .ref (q 73)), (4, .ref (q 74)), (5, .ref (q 75)), (6, .ref (q 76)), (9, .int l9), (10, .int l10), (11, .int l11), (12, .int l12), (19, .int l19), (20, .int l20)]) hx hb dL_law_1652 hl (Nat.le_of_ble_eq_true rfl) rfl (fun ls hl => ?_)
              refine lv_iinc (v := (l19 + 1)) (lv' := [(19, .int (l19 + 1)), (7, .int (0 : Int32)), (0, .ref bb), (1, .ref (q 0)), (2, .ref (q 72)), (3, .ref (q 73)), (4, .ref (q 74)), (5, .ref (q 75)), (6, .ref (q 76)), (9, .int l9), (10, .int l10), (11, .int l11), (12, .int l12), (20, .int l20)]) hx hb dL_law_1654 hl (k := 12) rfl rfl (Nat.le_of_ble_eq_true rfl) rfl (fun ls hl => ?_)
              refine lv_goto (tgt := 1568) hx hb dL_law_1657 rfl ?_
              exact ih1568 (0 : Int32) (l19 + 1) _ _ (by omega) (by omega) _ _ _ (lv_sub hl [2, 3, 4, 5, 6, 7, 8, 1, 9, 10, 11, 12, 0] rfl) S h
            · have h := h_t c2 h
              refine lv_iconst (v := 1) hx hb dL_law_1647 (by decide) ?_
              refine lv_goto (tgt := 1652) hx hb dL_law_1648 rfl ?_
              refine lv_istore (lv' := [(7, .int (1 : Int32)), (0, .ref bb), (1, .ref (q 0)), (2, .ref (q 72)), (3, .ref (q 73)), (4, .ref (q 74)), (5, .ref (q 75)), (6, .ref (q 76)), (9, .int l9), (10, .int l10), (11, .int l11), (12, .int l12), (19, .int l19), (20, .int l20)]) hx hb dL_law_1652 hl (Nat.le_of_ble_eq_true rfl) rfl (fun ls hl => ?_)
              refine lv_iinc (v := (l19 + 1)) (lv' := [(19, .int (l19 + 1)), (7, .int (1 : Int32)), (0, .ref bb), (1, .ref (q 0)), (2, .ref (q 72)), (3, .ref (q 73)), (4, .ref (q 74)), (5, .ref (q 75)), (6, .ref (q 76)), (9, .int l9), (10, .int l10), (11, .int l11), (12, .int l12), (20, .int l20)]) hx hb dL_law_1654 hl (k := 12) rfl rfl (Nat.le_of_ble_eq_true rfl) rfl (fun ls hl => ?_)
              refine lv_goto (tgt := 1568) hx hb dL_law_1657 rfl ?_
              exact ih1568 (1 : Int32) (l19 + 1) _ _ (by omega) (by omega) _ _ _ (lv_sub hl [2, 3, 4, 5, 6, 7, 8, 1, 9, 10, 11, 12, 0] rfl) S h
          have lab1627 : ∀ (l19 : Int32) (l20 : Int32) (cl sl : Nat) (hc : cl + (4 + (n1568 * 4 + n139 * 1572)) ≤ 81604) (hs : sl + 6 * (4 + (n1568 * 4 + n139 * 1572)) ≤ 489624) (H : Heap) (locs : List Loc) (ls : Array Slot), lv_has ls 22 [(0, .ref bb), (1, .ref (q 0)), (2, .ref (q 72)), (3, .ref (q 73)), (4, .ref (q 74)), (5, .ref (q 75)), (6, .ref (q 76)), (9, .int l9), (10, .int l10), (11, .int l11), (12, .int l12), (19, .int l19), (20, .int l20)] → Sta KL D dA q A s.heap w H locs → Option.bind (l_law_b1627 xs L l9 l10 l11 l12 l19 l20 w) (seqF (fun s9 => Option.bind (lp (l_law_L1568 xs L l9 l10 l11 l12 w) n1568 s9) (fun x9 => Option.bind (l_law_x1568 xs L l9 l10 l11 l12 w x9) (seqF (fun s9 => Option.bind (lp (l_law_L139 xs L) n139 s9) (fun x9 => Option.bind (l_law_x139 xs L x9) some)) (fun x9 => Option.bind (l_law_x139 xs L x9) some)))) (fun x9 => Option.bind (l_law_x1568 xs L l9 l10 l11 l12 w x9) (seqF (fun s9 => Option.bind (lp (l_law_L139 xs L) n139 s9) (fun x9 => Option.bind (l_law_x139 xs L x9) some)) (fun x9 => Option.bind (l_law_x139 xs L x9) some)))) = some z → W p l e R s m args below meth c H locs cl sl Q (F0 m 1627 ls []) := by
            intro l19 l20 cl sl hc hs H locs ls hl S h
            unfold l_law_b1627 at h
            refine lv_aload_n hx hb dL_law_1627 rfl (lv_at hl 1 rfl) ?_
            refine lv_iload hx hb dL_law_1628 (lv_at hl 11 rfl) ?_
            obtain ⟨x3, ex3, h⟩ := h_c h
            refine kl_i0 C S (w_S (rest := []) (As := [.ref (q 0), .int l19]) lw_170 hx hb hml C S (c_l_why l hfl D dA q l19 w x3 ex3) ⟨Nat.le_trans (Nat.le_of_ble_eq_true rfl) hRf, Nat.le_trans (Nat.le_of_ble_eq_true rfl) hRl⟩ rfl hl.1 rfl (Nat.le_of_ble_eq_true rfl) dL_law_1630 ⟨by omega, by omega⟩) (fun H locs S => ?_)
            refine lv_iconst (v := 1) hx hb dL_law_1633 (by decide) ?_
            refine lv_icmp_ne (tgt := 1641) hx hb dL_law_1634 rfl (fun c4 => ?_) (fun c4 => ?_)
            · have h := h_f c4 h
              refine lv_iconst (v := 0) hx hb dL_law_1641 (by decide) ?_
              exact lab1642 l19 l20 (0 : Int32) _ _ (by omega) (by omega) _ _ _ (lv_sub hl [0, 1, 2, 3, 4, 5, 6, 7, 8, 9, 10, 11, 12] rfl) S h
            · have h := h_t c4 h
              refine lv_iconst (v := 1) hx hb dL_law_1637 (by decide) ?_
              refine lv_goto (tgt := 1642) hx hb dL_law_1638 rfl ?_
              exact lab1642 l19 l20 (1 : Int32) _ _ (by omega) (by omega) _ _ _ (lv_sub hl [0, 1, 2, 3, 4, 5, 6, 7, 8, 9, 10, 11, 12] rfl) S h
          have loop1589 : ∀ (l19 : Int32) (n1589 : Nat), ∀ (l20 : Int32) (l21 : Int32) (cl sl : Nat) (hc : cl + (4 + (n1589 * 0 + (n1568 * 4 + n139 * 1572))) ≤ 81604) (hs : sl + 6 * (4 + (n1589 * 0 + (n1568 * 4 + n139 * 1572))) ≤ 489624) (H : Heap) (locs : List Loc) (ls : Array Slot), lv_has ls 22 [(0, .ref bb), (1, .ref (q 0)), (2, .ref (q 72)), (3, .ref (q 73)), (4, .ref (q 74)), (5, .ref (q 75)), (6, .ref (q 76)), (9, .int l9), (10, .int l10), (11, .int l11), (12, .int l12), (19, .int l19), (20, .int l20), (21, .int l21)] → Sta KL D dA q A s.heap w H locs → Option.bind (lp (l_law_L1589 xs L l9 l10 l11 l12 l19 w) n1589 (l20, l21)) (fun x9 => Option.bind (l_law_x1589 xs L l9 l10 l11 l12 l19 w x9) (seqF (fun s9 => Option.bind (lp (l_law_L1568 xs L l9 l10 l11 l12 w) n1568 s9) (fun x9 => Option.bind (l_law_x1568 xs L l9 l10 l11 l12 w x9) (seqF (fun s9 => Option.bind (lp (l_law_L139 xs L) n139 s9) (fun x9 => Option.bind (l_law_x139 xs L x9) some)) (fun x9 => Option.bind (l_law_x139 xs L x9) some)))) (fun x9 => Option.bind (l_law_x1568 xs L l9 l10 l11 l12 w x9) (seqF (fun s9 => Option.bind (lp (l_law_L139 xs L) n139 s9) (fun x9 => Option.bind (l_law_x139 xs L x9) some)) (fun x9 => Option.bind (l_law_x139 xs L x9) some))))) = some z → W p l e R s m args below meth c H locs cl sl Q (F0 m 1589 ls []) := by
            intro l19 n1589
            induction n1589 with
            | zero =>
              intro l20 l21 cl sl hc hs H locs ls hl S h
              exact (h_lp0 h).elim
            | succ n1589 ih1589 =>
              intro l20 l21 cl sl hc hs H locs ls hl S h
              have h := h_lp h
              unfold l_law_L1589 at h
              refine lv_iload hx hb dL_law_1589 (lv_at hl 13 rfl) ?_
              refine lv_iload hx hb dL_law_1591 (lv_at hl 8 rfl) ?_
              refine lv_icmp_ge (tgt := 1627) hx hb dL_law_1593 rfl (fun c5 => ?_) (fun c5 => ?_)
              · have h := h_t c5 h
                exact lab1627 l19 l20 _ _ (by omega) (by omega) _ _ _ (lv_sub hl [0, 1, 2, 3, 4, 5, 6, 7, 8, 9, 10, 11, 12] rfl) S h
              · have h := h_f c5 h
                refine lv_iload hx hb dL_law_1596 (lv_at hl 12 rfl) ?_
                refine lv_if_ne (tgt := 1614) hx hb dL_law_1598 rfl (fun c6 => ?_) (fun c6 => ?_)
                · have h := h_f c6 h
                  refine lv_iconst (v := 1) hx hb dL_law_1614 (by decide) ?_
                  refine lv_goto (tgt := 1619) hx hb dL_law_1615 rfl ?_
                  refine lv_istore (lv' := [(20, .int (1 : Int32)), (0, .ref bb), (1, .ref (q 0)), (2, .ref (q 72)), (3, .ref (q 73)), (4, .ref (q 74)), (5, .ref (q 75)), (6, .ref (q 76)), (9, .int l9), (10, .int l10), (11, .int l11), (12, .int l12), (19, .int l19), (21, .int l21)]) hx hb dL_law_1619 hl (Nat.le_of_ble_eq_true rfl) rfl (fun ls hl => ?_)
                  refine lv_iinc (v := (l21 + 1)) (lv' := [(21, .int (l21 + 1)), (20, .int (1 : Int32)), (0, .ref bb), (1, .ref (q 0)), (2, .ref (q 72)), (3, .ref (q 73)), (4, .ref (q 74)), (5, .ref (q 75)), (6, .ref (q 76)), (9, .int l9), (10, .int l10), (11, .int l11), (12, .int l12), (19, .int l19)]) hx hb dL_law_1621 hl (k := 13) rfl rfl (Nat.le_of_ble_eq_true rfl) rfl (fun ls hl => ?_)
                  refine lv_goto (tgt := 1589) hx hb dL_law_1624 rfl ?_
                  exact ih1589 (1 : Int32) (l21 + 1) _ _ (by omega) (by omega) _ _ _ (lv_sub hl [2, 3, 4, 5, 6, 7, 8, 9, 10, 11, 12, 13, 1, 0] rfl) S h
                · have h := h_t c6 h
                  refine lv_aload hx hb dL_law_1601 (lv_at hl 6 rfl) ?_
                  refine lv_iload hx hb dL_law_1603 (lv_at hl 13 rfl) ?_
                  obtain ⟨g7, h⟩ := h_gd h
                  refine r_iald hx hb C S KL_76 (h_in g7) dL_law_1605 ?_
                  refine lv_aload hx hb dL_law_1606 (lv_at hl 6 rfl) ?_
                  refine lv_iload hx hb dL_law_1608 (lv_at hl 11 rfl) ?_
                  obtain ⟨g8, h⟩ := h_gd h
                  refine r_iald hx hb C S KL_76 (h_in g8) dL_law_1610 ?_
                  refine lv_icmp_ne (tgt := 1618) hx hb dL_law_1611 rfl (fun c9 => ?_) (fun c9 => ?_)
                  · have h := h_f c9 h
                    refine lv_iconst (v := 0) hx hb dL_law_1618 (by decide) ?_
                    refine lv_istore (lv' := [(20, .int (0 : Int32)), (0, .ref bb), (1, .ref (q 0)), (2, .ref (q 72)), (3, .ref (q 73)), (4, .ref (q 74)), (5, .ref (q 75)), (6, .ref (q 76)), (9, .int l9), (10, .int l10), (11, .int l11), (12, .int l12), (19, .int l19), (21, .int l21)]) hx hb dL_law_1619 hl (Nat.le_of_ble_eq_true rfl) rfl (fun ls hl => ?_)
                    refine lv_iinc (v := (l21 + 1)) (lv' := [(21, .int (l21 + 1)), (20, .int (0 : Int32)), (0, .ref bb), (1, .ref (q 0)), (2, .ref (q 72)), (3, .ref (q 73)), (4, .ref (q 74)), (5, .ref (q 75)), (6, .ref (q 76)), (9, .int l9), (10, .int l10), (11, .int l11), (12, .int l12), (19, .int l19)]) hx hb dL_law_1621 hl (k := 13) rfl rfl (Nat.le_of_ble_eq_true rfl) rfl (fun ls hl => ?_)
                    refine lv_goto (tgt := 1589) hx hb dL_law_1624 rfl ?_
                    exact ih1589 (0 : Int32) (l21 + 1) _ _ (by omega) (by omega) _ _ _ (lv_sub hl [2, 3, 4, 5, 6, 7, 8, 9, 10, 11, 12, 13, 1, 0] rfl) S h
                  · have h := h_t c9 h
                    refine lv_iconst (v := 1) hx hb dL_law_1614 (by decide) ?_
                    refine lv_goto (tgt := 1619) hx hb dL_law_1615 rfl ?_
                    refine lv_istore (lv' := [(20, .int (1 : Int32)), (0, .ref bb), (1, .ref (q 0)), (2, .ref (q 72)), (3, .ref (q 73)), (4, .ref (q 74)), (5, .ref (q 75)), (6, .ref (q 76)), (9, .int l9), (10, .int l10), (11, .int l11), (12, .int l12), (19, .int l19), (21, .int l21)]) hx hb dL_law_1619 hl (Nat.le_of_ble_eq_true rfl) rfl (fun ls hl => ?_)
                    refine lv_iinc (v := (l21 + 1)) (lv' := [(21, .int (l21 + 1)), (20, .int (1 : Int32)), (0, .ref bb), (1, .ref (q 0)), (2, .ref (q 72)), (3, .ref (q 73)), (4, .ref (q 74)), (5, .ref (q 75)), (6, .ref (q 76)), (9, .int l9), (10, .int l10), (11, .int l11), (12, .int l12), (19, .int l19)]) hx hb dL_law_1621 hl (k := 13) rfl rfl (Nat.le_of_ble_eq_true rfl) rfl (fun ls hl => ?_)
                    refine lv_goto (tgt := 1589) hx hb dL_law_1624 rfl ?_
                    exact ih1589 (1 : Int32) (l21 + 1) _ _ (by omega) (by omega) _ _ _ (lv_sub hl [2, 3, 4, 5, 6, 7, 8, 9, 10, 11, 12, 13, 1, 0] rfl) S h
          intro l7 l19 cl sl hc hs H locs ls hl S h
          have h := h_lp h
          unfold l_law_L1568 at h
          refine lv_iload hx hb dL_law_1568 (lv_at hl 12 rfl) ?_
          refine lv_iload hx hb dL_law_1570 (lv_at hl 9 rfl) ?_
          refine lv_icmp_ge (tgt := 1660) hx hb dL_law_1572 rfl (fun c10 => ?_) (fun c10 => ?_)
          · have h := h_t c10 h
            exact lab1660 l7 l9 l10 l11 l12 w _ _ (by omega) (by omega) _ _ _ (lv_sub hl [0, 1, 2, 3, 4, 5, 6, 7, 8, 9, 10, 11] rfl) S h
          · have h := h_f c10 h
            refine lv_iload hx hb dL_law_1575 (lv_at hl 7 rfl) ?_
            refine lv_if_eq (tgt := 1660) hx hb dL_law_1577 rfl (fun c11 => ?_) (fun c11 => ?_)
            · have h := h_t c11 h
              exact lab1660 l7 l9 l10 l11 l12 w _ _ (by omega) (by omega) _ _ _ (lv_sub hl [0, 1, 2, 3, 4, 5, 6, 7, 8, 9, 10, 11] rfl) S h
            · have h := h_f c11 h
              refine lv_iconst (v := 0) hx hb dL_law_1580 (by decide) ?_
              refine lv_istore (lv' := [(20, .int (0 : Int32)), (0, .ref bb), (1, .ref (q 0)), (2, .ref (q 72)), (3, .ref (q 73)), (4, .ref (q 74)), (5, .ref (q 75)), (6, .ref (q 76)), (7, .int l7), (9, .int l9), (10, .int l10), (11, .int l11), (12, .int l12), (19, .int l19)]) hx hb dL_law_1581 hl (Nat.le_of_ble_eq_true rfl) rfl (fun ls hl => ?_)
              refine lv_iload hx hb dL_law_1583 (lv_at hl 13 rfl) ?_
              refine lv_iconst (v := 1) hx hb dL_law_1585 (by decide) ?_
              refine lv_iadd hx hb dL_law_1586 ?_
              refine lv_topi (fun v12 ev12 => ?_)
              have h := h_l h v12 ev12
              refine lv_istore (lv' := [(21, .int v12), (20, .int (0 : Int32)), (0, .ref bb), (1, .ref (q 0)), (2, .ref (q 72)), (3, .ref (q 73)), (4, .ref (q 74)), (5, .ref (q 75)), (6, .ref (q 76)), (7, .int l7), (9, .int l9), (10, .int l10), (11, .int l11), (12, .int l12), (19, .int l19)]) hx hb dL_law_1587 hl (Nat.le_of_ble_eq_true rfl) rfl (fun ls hl => ?_)
              exact loop1589 l19 49 (0 : Int32) v12 _ _ (by omega) (by omega) _ _ _ (lv_sub hl [2, 3, 4, 5, 6, 7, 8, 10, 11, 12, 13, 14, 1, 0] rfl) S (h_bb h)
      have lab1563 : ∀ (l9 : Int32) (l10 : Int32) (l11 : Int32) (l12 : Int32) (t0 : Int32) (w : Wt) (cl sl : Nat) (hc : cl + (196 + (n139 * 1572)) ≤ 81604) (hs : sl + 6 * (196 + (n139 * 1572)) ≤ 489624) (H : Heap) (locs : List Loc) (ls : Array Slot), lv_has ls 22 [(0, .ref bb), (1, .ref (q 0)), (2, .ref (q 72)), (3, .ref (q 73)), (4, .ref (q 74)), (5, .ref (q 75)), (6, .ref (q 76)), (9, .int l9), (10, .int l10), (11, .int l11), (12, .int l12)] → Sta KL D dA q A s.heap w H locs → Option.bind (l_law_b1563 xs L l9 l10 l11 l12 t0 w) (seqF (fun s9 => Option.bind (lp (l_law_L139 xs L) n139 s9) (fun x9 => Option.bind (l_law_x139 xs L x9) some)) (fun x9 => Option.bind (l_law_x139 xs L x9) some)) = some z → W p l e R s m args below meth c H locs cl sl Q (F0 m 1563 ls [.int t0]) := by
        intro l9 l10 l11 l12 t0 w cl sl hc hs H locs ls hl S h
        unfold l_law_b1563 at h
        refine lv_istore (lv' := [(7, .int t0), (0, .ref bb), (1, .ref (q 0)), (2, .ref (q 72)), (3, .ref (q 73)), (4, .ref (q 74)), (5, .ref (q 75)), (6, .ref (q 76)), (9, .int l9), (10, .int l10), (11, .int l11), (12, .int l12)]) hx hb dL_law_1563 hl (Nat.le_of_ble_eq_true rfl) rfl (fun ls hl => ?_)
        refine lv_iconst (v := 0) hx hb dL_law_1565 (by decide) ?_
        refine lv_istore (lv' := [(19, .int (0 : Int32)), (7, .int t0), (0, .ref bb), (1, .ref (q 0)), (2, .ref (q 72)), (3, .ref (q 73)), (4, .ref (q 74)), (5, .ref (q 75)), (6, .ref (q 76)), (9, .int l9), (10, .int l10), (11, .int l11), (12, .int l12)]) hx hb dL_law_1566 hl (Nat.le_of_ble_eq_true rfl) rfl (fun ls hl => ?_)
        exact loop1568 l9 l10 l11 l12 w 49 t0 (0 : Int32) _ _ (by omega) (by omega) _ _ _ (lv_sub hl [2, 3, 4, 5, 6, 7, 8, 1, 9, 10, 11, 12, 0] rfl) S (h_bb h)
      have lab1562 : ∀ (l9 : Int32) (l10 : Int32) (l11 : Int32) (l12 : Int32) (w : Wt) (cl sl : Nat) (hc : cl + (196 + (n139 * 1572)) ≤ 81604) (hs : sl + 6 * (196 + (n139 * 1572)) ≤ 489624) (H : Heap) (locs : List Loc) (ls : Array Slot), lv_has ls 22 [(0, .ref bb), (1, .ref (q 0)), (2, .ref (q 72)), (3, .ref (q 73)), (4, .ref (q 74)), (5, .ref (q 75)), (6, .ref (q 76)), (9, .int l9), (10, .int l10), (11, .int l11), (12, .int l12)] → Sta KL D dA q A s.heap w H locs → Option.bind (l_law_b1562 xs L l9 l10 l11 l12 w) (seqF (fun s9 => Option.bind (lp (l_law_L139 xs L) n139 s9) (fun x9 => Option.bind (l_law_x139 xs L x9) some)) (fun x9 => Option.bind (l_law_x139 xs L x9) some)) = some z → W p l e R s m args below meth c H locs cl sl Q (F0 m 1562 ls []) := by
        intro l9 l10 l11 l12 w cl sl hc hs H locs ls hl S h
        unfold l_law_b1562 at h
        refine lv_iconst (v := 0) hx hb dL_law_1562 (by decide) ?_
        exact lab1563 l9 l10 l11 l12 (0 : Int32) w _ _ (by omega) (by omega) _ _ _ (lv_sub hl [0, 1, 2, 3, 4, 5, 6, 7, 8, 9, 10] rfl) S h
      have lab1544 : ∀ (l7 : Int32) (l9 : Int32) (l10 : Int32) (l11 : Int32) (l12 : Int32) (l18 : Int32) (w : Wt) (cl sl : Nat) (hc : cl + (196 + (n139 * 1572)) ≤ 81604) (hs : sl + 6 * (196 + (n139 * 1572)) ≤ 489624) (H : Heap) (locs : List Loc) (ls : Array Slot), lv_has ls 22 [(0, .ref bb), (1, .ref (q 0)), (2, .ref (q 72)), (3, .ref (q 73)), (4, .ref (q 74)), (5, .ref (q 75)), (6, .ref (q 76)), (7, .int l7), (9, .int l9), (10, .int l10), (11, .int l11), (12, .int l12), (18, .int l18)] → Sta KL D dA q A s.heap w H locs → Option.bind (l_law_b1544 xs L l7 l9 l10 l11 l12 l18 w) (seqF (fun s9 => Option.bind (lp (l_law_L139 xs L) n139 s9) (fun x9 => Option.bind (l_law_x139 xs L x9) some)) (fun x9 => Option.bind (l_law_x139 xs L x9) some)) = some z → W p l e R s m args below meth c H locs cl sl Q (F0 m 1544 ls []) := by
        intro l7 l9 l10 l11 l12 l18 w cl sl hc hs H locs ls hl S h
        unfold l_law_b1544 at h
        refine lv_iload hx hb dL_law_1544 (lv_at hl 7 rfl) ?_
        refine lv_if_eq (tgt := 1562) hx hb dL_law_1546 rfl (fun c13 => ?_) (fun c13 => ?_)
        · have h := h_t c13 h
          exact lab1562 l9 l10 l11 l12 w _ _ (by omega) (by omega) _ _ _ (lv_sub hl [0, 1, 2, 3, 4, 5, 6, 8, 9, 10, 11] rfl) S h
        · have h := h_f c13 h
          refine lv_aload_n hx hb dL_law_1549 rfl (lv_at hl 1 rfl) ?_
          obtain ⟨x14, ex14, h⟩ := h_c h
          refine kl_i C S (q_V (rest := []) (As := []) lk_RL_144 EVc_ok hx hb hml (kC C) (kS S) KC_0 rfl (c_f_Ballotscript_stale l D dA q w x14.2 x14.1 ex14 _) rfl rfl ⟨Nat.le_trans (Nat.le_of_ble_eq_true rfl) hRf, Nat.le_trans (Nat.le_of_ble_eq_true rfl) hRl⟩ rfl hl.1 rfl (Nat.le_of_ble_eq_true rfl) dL_law_1550 ⟨by omega, by omega⟩) (fun w15 ew15 H locs S => ?_)
          have h := h_l h w15 ew15
          refine lv_iload hx hb dL_law_1553 (lv_at hl 12 rfl) ?_
          refine lv_icmp_ne (tgt := 1562) hx hb dL_law_1555 rfl (fun c16 => ?_) (fun c16 => ?_)
          · have h := h_f c16 h
            exact lab1562 l9 l10 l11 l12 w15 _ _ (by omega) (by omega) _ _ _ (lv_sub hl [0, 1, 2, 3, 4, 5, 6, 8, 9, 10, 11] rfl) S h
          · have h := h_t c16 h
            refine lv_iconst (v := 1) hx hb dL_law_1558 (by decide) ?_
            refine lv_goto (tgt := 1563) hx hb dL_law_1559 rfl ?_
            exact lab1563 l9 l10 l11 l12 (1 : Int32) w15 _ _ (by omega) (by omega) _ _ _ (lv_sub hl [0, 1, 2, 3, 4, 5, 6, 8, 9, 10, 11] rfl) S h
      have loop1434 : ∀ (l9 : Int32) (l10 : Int32) (l11 : Int32) (l12 : Int32) (l16 : Int32) (n1434 : Nat), ∀ (l7 : Int32) (l18 : Int32) (l19 : Int32) (w : Wt) (cl sl : Nat) (hc : cl + (196 + (n1434 * 140 + n139 * 1572)) ≤ 81604) (hs : sl + 6 * (196 + (n1434 * 140 + n139 * 1572)) ≤ 489624) (H : Heap) (locs : List Loc) (ls : Array Slot), lv_has ls 22 [(0, .ref bb), (1, .ref (q 0)), (2, .ref (q 72)), (3, .ref (q 73)), (4, .ref (q 74)), (5, .ref (q 75)), (6, .ref (q 76)), (7, .int l7), (9, .int l9), (10, .int l10), (11, .int l11), (12, .int l12), (16, .int l16), (18, .int l18), (19, .int l19)] → Sta KL D dA q A s.heap w H locs → Option.bind (lp (l_law_L1434 xs L l9 l10 l11 l12 l16) n1434 (l7, l18, l19, w)) (fun x9 => Option.bind (l_law_x1434 xs L l9 l10 l11 l12 x9) (seqF (fun s9 => Option.bind (lp (l_law_L139 xs L) n139 s9) (fun x9 => Option.bind (l_law_x139 xs L x9) some)) (fun x9 => Option.bind (l_law_x139 xs L x9) some))) = some z → W p l e R s m args below meth c H locs cl sl Q (F0 m 1434 ls []) := by
        intro l9 l10 l11 l12 l16 n1434
        induction n1434 with
        | zero =>
          intro l7 l18 l19 w cl sl hc hs H locs ls hl S h
          exact (h_lp0 h).elim
        | succ n1434 ih1434 =>
          have lab1499 : ∀ (l18 : Int32) (l19 : Int32) (t0 : Int32) (w : Wt) (cl sl : Nat) (hc : cl + (200 + (n1434 * 140 + n139 * 1572)) ≤ 81604) (hs : sl + 6 * (200 + (n1434 * 140 + n139 * 1572)) ≤ 489624) (H : Heap) (locs : List Loc) (ls : Array Slot), lv_has ls 22 [(0, .ref bb), (1, .ref (q 0)), (2, .ref (q 72)), (3, .ref (q 73)), (4, .ref (q 74)), (5, .ref (q 75)), (6, .ref (q 76)), (9, .int l9), (10, .int l10), (11, .int l11), (12, .int l12), (16, .int l16), (18, .int l18), (19, .int l19)] → Sta KL D dA q A s.heap w H locs → Option.bind (l_law_b1499 xs L l9 l10 l11 l12 l16 l18 l19 t0 w) (seqF (fun s9 => Option.bind (lp (l_law_L1434 xs L l9 l10 l11 l12 l16) n1434 s9) (fun x9 => Option.bind (l_law_x1434 xs L l9 l10 l11 l12 x9) (seqF (fun s9 => Option.bind (lp (l_law_L139 xs L) n139 s9) (fun x9 => Option.bind (l_law_x139 xs L x9) some)) (fun x9 => Option.bind (l_law_x139 xs L x9) some)))) (fun x9 => Option.bind (l_law_x1434 xs L l9 l10 l11 l12 x9) (seqF (fun s9 => Option.bind (lp (l_law_L139 xs L) n139 s9) (fun x9 => Option.bind (l_law_x139 xs L x9) some)) (fun x9 => Option.bind (l_law_x139 xs L x9) some)))) = some z → W p l e R s m args below meth c H locs cl sl Q (F0 m 1499 ls [.int t0]) := by
            intro l18 l19 t0 w cl sl hc hs H locs ls hl S h
            unfold l_law_b1499 at h
            refine lv_istore (lv' := [(7, .int t0), (0, .ref bb), (1, .ref (q 0)), (2, .ref (q 72)), (3, .ref (q 73)), (4, .ref (q 74)), (5, .ref (q 75)), (6, .ref (q 76)), (9, .int l9), (10, .int l10), (11, .int l11), (12, .int l12), (16, .int l16), (18, .int l18), (19, .int l19)]) hx hb dL_law_1499 hl (Nat.le_of_ble_eq_true rfl) rfl (fun ls hl => ?_)
            refine lv_iload hx hb dL_law_1501 (lv_at hl 13 rfl) ?_
            refine lv_iload hx hb dL_law_1503 (lv_at hl 0 rfl) ?_
            refine lv_if_eq (tgt := 1534) hx hb dL_law_1505 rfl (fun c17 => ?_) (fun c17 => ?_)
            · have h := h_t c17 h
              refine lv_iconst (v := 0) hx hb dL_law_1534 (by decide) ?_
              refine lv_iadd hx hb dL_law_1535 ?_
              refine lv_topi (fun v18 ev18 => ?_)
              have h := h_l h v18 ev18
              refine lv_istore (lv' := [(18, .int v18), (7, .int t0), (0, .ref bb), (1, .ref (q 0)), (2, .ref (q 72)), (3, .ref (q 73)), (4, .ref (q 74)), (5, .ref (q 75)), (6, .ref (q 76)), (9, .int l9), (10, .int l10), (11, .int l11), (12, .int l12), (16, .int l16), (19, .int l19)]) hx hb dL_law_1536 hl (Nat.le_of_ble_eq_true rfl) rfl (fun ls hl => ?_)
              refine lv_iinc (v := (l19 + 1)) (lv' := [(19, .int (l19 + 1)), (18, .int v18), (7, .int t0), (0, .ref bb), (1, .ref (q 0)), (2, .ref (q 72)), (3, .ref (q 73)), (4, .ref (q 74)), (5, .ref (q 75)), (6, .ref (q 76)), (9, .int l9), (10, .int l10), (11, .int l11), (12, .int l12), (16, .int l16)]) hx hb dL_law_1538 hl (k := 14) rfl rfl (Nat.le_of_ble_eq_true rfl) rfl (fun ls hl => ?_)
              refine lv_goto (tgt := 1434) hx hb dL_law_1541 rfl ?_
              exact ih1434 t0 v18 (l19 + 1) w _ _ (by omega) (by omega) _ _ _ (lv_sub hl [3, 4, 5, 6, 7, 8, 9, 2, 10, 11, 12, 13, 14, 1, 0] rfl) S h
            · have h := h_f c17 h
              refine lv_aload hx hb dL_law_1508 (lv_at hl 6 rfl) ?_
              refine lv_iload hx hb dL_law_1510 (lv_at hl 14 rfl) ?_
              obtain ⟨g19, h⟩ := h_gd h
              refine r_iald hx hb C S KL_75 (h_in g19) dL_law_1512 ?_
              refine lv_if_lt (tgt := 1534) hx hb dL_law_1513 rfl (fun c20 => ?_) (fun c20 => ?_)
              · have h := h_t c20 h
                refine lv_iconst (v := 0) hx hb dL_law_1534 (by decide) ?_
                refine lv_iadd hx hb dL_law_1535 ?_
                refine lv_topi (fun v21 ev21 => ?_)
                have h := h_l h v21 ev21
                refine lv_istore (lv' := [(18, .int v21), (7, .int t0), (0, .ref bb), (1, .ref (q 0)), (2, .ref (q 72)), (3, .ref (q 73)), (4, .ref (q 74)), (5, .ref (q 75)), (6, .ref (q 76)), (9, .int l9), (10, .int l10), (11, .int l11), (12, .int l12), (16, .int l16), (19, .int l19)]) hx hb dL_law_1536 hl (Nat.le_of_ble_eq_true rfl) rfl (fun ls hl => ?_)
                refine lv_iinc (v := (l19 + 1)) (lv' := [(19, .int (l19 + 1)), (18, .int v21), (7, .int t0), (0, .ref bb), (1, .ref (q 0)), (2, .ref (q 72)), (3, .ref (q 73)), (4, .ref (q 74)), (5, .ref (q 75)), (6, .ref (q 76)), (9, .int l9), (10, .int l10), (11, .int l11), (12, .int l12), (16, .int l16)]) hx hb dL_law_1538 hl (k := 14) rfl rfl (Nat.le_of_ble_eq_true rfl) rfl (fun ls hl => ?_)
                refine lv_goto (tgt := 1434) hx hb dL_law_1541 rfl ?_
                exact ih1434 t0 v21 (l19 + 1) w _ _ (by omega) (by omega) _ _ _ (lv_sub hl [3, 4, 5, 6, 7, 8, 9, 2, 10, 11, 12, 13, 14, 1, 0] rfl) S h
              · have h := h_f c20 h
                refine lv_aload hx hb dL_law_1516 (lv_at hl 6 rfl) ?_
                refine lv_iload hx hb dL_law_1518 (lv_at hl 14 rfl) ?_
                obtain ⟨g22, h⟩ := h_gd h
                refine r_iald hx hb C S KL_75 (h_in g22) dL_law_1520 ?_
                refine lv_aload_n hx hb dL_law_1521 rfl (lv_at hl 2 rfl) ?_
                refine lv_iload hx hb dL_law_1522 (lv_at hl 14 rfl) ?_
                obtain ⟨x23, ex23, h⟩ := h_c h
                refine kl_i C S (w_S (rest := [.int (w 75 (l19).toNatClampNeg), .int l18]) (As := [.ref (q 0), .int l19]) lw_123 hx hb hml C S (c_l_winners l hfl D dA q l19 w x23.2 x23.1 ex23) ⟨Nat.le_trans (Nat.le_of_ble_eq_true rfl) hRf, Nat.le_trans (Nat.le_of_ble_eq_true rfl) hRl⟩ rfl hl.1 rfl (Nat.le_of_ble_eq_true rfl) dL_law_1524 ⟨by omega, by omega⟩) (fun w24 ew24 H locs S => ?_)
                have h := h_l h w24 ew24
                refine lv_icmp_eq (tgt := 1534) hx hb dL_law_1527 rfl (fun c25 => ?_) (fun c25 => ?_)
                · have h := h_t c25 h
                  refine lv_iconst (v := 0) hx hb dL_law_1534 (by decide) ?_
                  refine lv_iadd hx hb dL_law_1535 ?_
                  refine lv_topi (fun v26 ev26 => ?_)
                  have h := h_l h v26 ev26
                  refine lv_istore (lv' := [(18, .int v26), (7, .int t0), (0, .ref bb), (1, .ref (q 0)), (2, .ref (q 72)), (3, .ref (q 73)), (4, .ref (q 74)), (5, .ref (q 75)), (6, .ref (q 76)), (9, .int l9), (10, .int l10), (11, .int l11), (12, .int l12), (16, .int l16), (19, .int l19)]) hx hb dL_law_1536 hl (Nat.le_of_ble_eq_true rfl) rfl (fun ls hl => ?_)
                  refine lv_iinc (v := (l19 + 1)) (lv' := [(19, .int (l19 + 1)), (18, .int v26), (7, .int t0), (0, .ref bb), (1, .ref (q 0)), (2, .ref (q 72)), (3, .ref (q 73)), (4, .ref (q 74)), (5, .ref (q 75)), (6, .ref (q 76)), (9, .int l9), (10, .int l10), (11, .int l11), (12, .int l12), (16, .int l16)]) hx hb dL_law_1538 hl (k := 14) rfl rfl (Nat.le_of_ble_eq_true rfl) rfl (fun ls hl => ?_)
                  refine lv_goto (tgt := 1434) hx hb dL_law_1541 rfl ?_
                  exact ih1434 t0 v26 (l19 + 1) w24 _ _ (by omega) (by omega) _ _ _ (lv_sub hl [3, 4, 5, 6, 7, 8, 9, 2, 10, 11, 12, 13, 14, 1, 0] rfl) S h
                · have h := h_f c25 h
                  refine lv_iconst (v := 1) hx hb dL_law_1530 (by decide) ?_
                  refine lv_goto (tgt := 1535) hx hb dL_law_1531 rfl ?_
                  refine lv_iadd hx hb dL_law_1535 ?_
                  refine lv_topi (fun v27 ev27 => ?_)
                  have h := h_l h v27 ev27
                  refine lv_istore (lv' := [(18, .int v27), (7, .int t0), (0, .ref bb), (1, .ref (q 0)), (2, .ref (q 72)), (3, .ref (q 73)), (4, .ref (q 74)), (5, .ref (q 75)), (6, .ref (q 76)), (9, .int l9), (10, .int l10), (11, .int l11), (12, .int l12), (16, .int l16), (19, .int l19)]) hx hb dL_law_1536 hl (Nat.le_of_ble_eq_true rfl) rfl (fun ls hl => ?_)
                  refine lv_iinc (v := (l19 + 1)) (lv' := [(19, .int (l19 + 1)), (18, .int v27), (7, .int t0), (0, .ref bb), (1, .ref (q 0)), (2, .ref (q 72)), (3, .ref (q 73)), (4, .ref (q 74)), (5, .ref (q 75)), (6, .ref (q 76)), (9, .int l9), (10, .int l10), (11, .int l11), (12, .int l12), (16, .int l16)]) hx hb dL_law_1538 hl (k := 14) rfl rfl (Nat.le_of_ble_eq_true rfl) rfl (fun ls hl => ?_)
                  refine lv_goto (tgt := 1434) hx hb dL_law_1541 rfl ?_
                  exact ih1434 t0 v27 (l19 + 1) w24 _ _ (by omega) (by omega) _ _ _ (lv_sub hl [3, 4, 5, 6, 7, 8, 9, 2, 10, 11, 12, 13, 14, 1, 0] rfl) S h
          have lab1498 : ∀ (l18 : Int32) (l19 : Int32) (w : Wt) (cl sl : Nat) (hc : cl + (200 + (n1434 * 140 + n139 * 1572)) ≤ 81604) (hs : sl + 6 * (200 + (n1434 * 140 + n139 * 1572)) ≤ 489624) (H : Heap) (locs : List Loc) (ls : Array Slot), lv_has ls 22 [(0, .ref bb), (1, .ref (q 0)), (2, .ref (q 72)), (3, .ref (q 73)), (4, .ref (q 74)), (5, .ref (q 75)), (6, .ref (q 76)), (9, .int l9), (10, .int l10), (11, .int l11), (12, .int l12), (16, .int l16), (18, .int l18), (19, .int l19)] → Sta KL D dA q A s.heap w H locs → Option.bind (l_law_b1498 xs L l9 l10 l11 l12 l16 l18 l19 w) (seqF (fun s9 => Option.bind (lp (l_law_L1434 xs L l9 l10 l11 l12 l16) n1434 s9) (fun x9 => Option.bind (l_law_x1434 xs L l9 l10 l11 l12 x9) (seqF (fun s9 => Option.bind (lp (l_law_L139 xs L) n139 s9) (fun x9 => Option.bind (l_law_x139 xs L x9) some)) (fun x9 => Option.bind (l_law_x139 xs L x9) some)))) (fun x9 => Option.bind (l_law_x1434 xs L l9 l10 l11 l12 x9) (seqF (fun s9 => Option.bind (lp (l_law_L139 xs L) n139 s9) (fun x9 => Option.bind (l_law_x139 xs L x9) some)) (fun x9 => Option.bind (l_law_x139 xs L x9) some)))) = some z → W p l e R s m args below meth c H locs cl sl Q (F0 m 1498 ls []) := by
            intro l18 l19 w cl sl hc hs H locs ls hl S h
            unfold l_law_b1498 at h
            refine lv_iconst (v := 0) hx hb dL_law_1498 (by decide) ?_
            exact lab1499 l18 l19 (0 : Int32) w _ _ (by omega) (by omega) _ _ _ (lv_sub hl [0, 1, 2, 3, 4, 5, 6, 7, 8, 9, 10, 11, 12, 13] rfl) S h
          have lab1494 : ∀ (l18 : Int32) (l19 : Int32) (w : Wt) (cl sl : Nat) (hc : cl + (200 + (n1434 * 140 + n139 * 1572)) ≤ 81604) (hs : sl + 6 * (200 + (n1434 * 140 + n139 * 1572)) ≤ 489624) (H : Heap) (locs : List Loc) (ls : Array Slot), lv_has ls 22 [(0, .ref bb), (1, .ref (q 0)), (2, .ref (q 72)), (3, .ref (q 73)), (4, .ref (q 74)), (5, .ref (q 75)), (6, .ref (q 76)), (9, .int l9), (10, .int l10), (11, .int l11), (12, .int l12), (16, .int l16), (18, .int l18), (19, .int l19)] → Sta KL D dA q A s.heap w H locs → Option.bind (l_law_b1494 xs L l9 l10 l11 l12 l16 l18 l19 w) (seqF (fun s9 => Option.bind (lp (l_law_L1434 xs L l9 l10 l11 l12 l16) n1434 s9) (fun x9 => Option.bind (l_law_x1434 xs L l9 l10 l11 l12 x9) (seqF (fun s9 => Option.bind (lp (l_law_L139 xs L) n139 s9) (fun x9 => Option.bind (l_law_x139 xs L x9) some)) (fun x9 => Option.bind (l_law_x139 xs L x9) some)))) (fun x9 => Option.bind (l_law_x1434 xs L l9 l10 l11 l12 x9) (seqF (fun s9 => Option.bind (lp (l_law_L139 xs L) n139 s9) (fun x9 => Option.bind (l_law_x139 xs L x9) some)) (fun x9 => Option.bind (l_law_x139 xs L x9) some)))) = some z → W p l e R s m args below meth c H locs cl sl Q (F0 m 1494 ls []) := by
            intro l18 l19 w cl sl hc hs H locs ls hl S h
            unfold l_law_b1494 at h
            refine lv_iconst (v := 1) hx hb dL_law_1494 (by decide) ?_
            refine lv_goto (tgt := 1499) hx hb dL_law_1495 rfl ?_
            exact lab1499 l18 l19 (1 : Int32) w _ _ (by omega) (by omega) _ _ _ (lv_sub hl [0, 1, 2, 3, 4, 5, 6, 7, 8, 9, 10, 11, 12, 13] rfl) S h
          have lab1474 : ∀ (l18 : Int32) (l19 : Int32) (w : Wt) (cl sl : Nat) (hc : cl + (332 + (n1434 * 140 + n139 * 1572)) ≤ 81604) (hs : sl + 6 * (332 + (n1434 * 140 + n139 * 1572)) ≤ 489624) (H : Heap) (locs : List Loc) (ls : Array Slot), lv_has ls 22 [(0, .ref bb), (1, .ref (q 0)), (2, .ref (q 72)), (3, .ref (q 73)), (4, .ref (q 74)), (5, .ref (q 75)), (6, .ref (q 76)), (9, .int l9), (10, .int l10), (11, .int l11), (12, .int l12), (16, .int l16), (18, .int l18), (19, .int l19)] → Sta KL D dA q A s.heap w H locs → Option.bind (l_law_b1474 xs L l9 l10 l11 l12 l16 l18 l19 w) (seqF (fun s9 => Option.bind (lp (l_law_L1434 xs L l9 l10 l11 l12 l16) n1434 s9) (fun x9 => Option.bind (l_law_x1434 xs L l9 l10 l11 l12 x9) (seqF (fun s9 => Option.bind (lp (l_law_L139 xs L) n139 s9) (fun x9 => Option.bind (l_law_x139 xs L x9) some)) (fun x9 => Option.bind (l_law_x139 xs L x9) some)))) (fun x9 => Option.bind (l_law_x1434 xs L l9 l10 l11 l12 x9) (seqF (fun s9 => Option.bind (lp (l_law_L139 xs L) n139 s9) (fun x9 => Option.bind (l_law_x139 xs L x9) some)) (fun x9 => Option.bind (l_law_x139 xs L x9) some)))) = some z → W p l e R s m args below meth c H locs cl sl Q (F0 m 1474 ls []) := by
            intro l18 l19 w cl sl hc hs H locs ls hl S h
            unfold l_law_b1474 at h
            refine lv_aload_n hx hb dL_law_1474 rfl (lv_at hl 1 rfl) ?_
            refine lv_iload hx hb dL_law_1475 (lv_at hl 13 rfl) ?_
            refine lv_aload_n hx hb dL_law_1477 rfl (lv_at hl 3 rfl) ?_
            refine lv_iload hx hb dL_law_1478 (lv_at hl 13 rfl) ?_
            obtain ⟨g28, h⟩ := h_gd h
            refine r_iald hx hb C S KL_73 (h_in g28) dL_law_1480 ?_
            refine lv_aload hx hb dL_law_1481 (lv_at hl 4 rfl) ?_
            refine lv_iload hx hb dL_law_1483 (lv_at hl 13 rfl) ?_
            obtain ⟨g29, h⟩ := h_gd h
            refine r_iald hx hb C S KL_74 (h_in g29) dL_law_1485 ?_
            refine lv_iload hx hb dL_law_1486 (lv_at hl 10 rfl) ?_
            obtain ⟨x30, ex30, h⟩ := h_c h
            refine kb_i C S (q_S (rest := []) (As := [.ref (q 0), .int l19, .int (w 73 (l19).toNatClampNeg), .int (w 74 (l19).toNatClampNeg), .int l12]) lk_RL_194 ev hx hb hml C S (c_l_fits l hfl D dA q l19 (w 73 (l19).toNatClampNeg) (w 74 (l19).toNatClampNeg) l12 w x30.2 x30.1 ex30 _) rfl rfl ⟨Nat.le_trans (Nat.le_of_ble_eq_true rfl) hRf, Nat.le_trans (Nat.le_of_ble_eq_true rfl) hRl⟩ rfl hl.1 rfl (Nat.le_of_ble_eq_true rfl) dL_law_1488 ⟨by omega, by omega⟩) (fun w31 ew31 H locs S => ?_)
            have h := h_l h w31 ew31
            refine lv_if_eq (tgt := 1498) hx hb dL_law_1491 rfl (fun c32 => ?_) (fun c32 => ?_)
            · have h := h_t c32 h
              exact lab1498 l18 l19 w31 _ _ (by omega) (by omega) _ _ _ (lv_sub hl [0, 1, 2, 3, 4, 5, 6, 7, 8, 9, 10, 11, 12, 13] rfl) S h
            · have h := h_f c32 h
              exact lab1494 l18 l19 w31 _ _ (by omega) (by omega) _ _ _ (lv_sub hl [0, 1, 2, 3, 4, 5, 6, 7, 8, 9, 10, 11, 12, 13] rfl) S h
          intro l7 l18 l19 w cl sl hc hs H locs ls hl S h
          have h := h_lp h
          unfold l_law_L1434 at h
          refine lv_iload hx hb dL_law_1434 (lv_at hl 14 rfl) ?_
          refine lv_iload hx hb dL_law_1436 (lv_at hl 8 rfl) ?_
          refine lv_icmp_ge (tgt := 1544) hx hb dL_law_1438 rfl (fun c33 => ?_) (fun c33 => ?_)
          · have h := h_t c33 h
            exact lab1544 l7 l9 l10 l11 l12 l18 w _ _ (by omega) (by omega) _ _ _ (lv_sub hl [0, 1, 2, 3, 4, 5, 6, 7, 8, 9, 10, 11, 13] rfl) S h
          · have h := h_f c33 h
            refine lv_iload hx hb dL_law_1441 (lv_at hl 7 rfl) ?_
            refine lv_if_eq (tgt := 1544) hx hb dL_law_1443 rfl (fun c34 => ?_) (fun c34 => ?_)
            · have h := h_t c34 h
              exact lab1544 l7 l9 l10 l11 l12 l18 w _ _ (by omega) (by omega) _ _ _ (lv_sub hl [0, 1, 2, 3, 4, 5, 6, 7, 8, 9, 10, 11, 13] rfl) S h
            · have h := h_f c34 h
              refine lv_aload_n hx hb dL_law_1446 rfl (lv_at hl 1 rfl) ?_
              refine lv_iload hx hb dL_law_1447 (lv_at hl 14 rfl) ?_
              obtain ⟨x35, ex35, h⟩ := h_c h
              refine kl_i0 C S (w_S (rest := []) (As := [.ref (q 0), .int l19]) lw_168 hx hb hml C S (c_l_certified l hfl D dA q l19 w x35 ex35) ⟨Nat.le_trans (Nat.le_of_ble_eq_true rfl) hRf, Nat.le_trans (Nat.le_of_ble_eq_true rfl) hRl⟩ rfl hl.1 rfl (Nat.le_of_ble_eq_true rfl) dL_law_1449 ⟨by omega, by omega⟩) (fun H locs S => ?_)
              refine lv_aload hx hb dL_law_1452 (lv_at hl 5 rfl) ?_
              refine lv_iload hx hb dL_law_1454 (lv_at hl 14 rfl) ?_
              obtain ⟨g36, h⟩ := h_gd h
              refine r_iald hx hb C S KL_75 (h_in g36) dL_law_1456 ?_
              refine lv_icmp_ne (tgt := 1498) hx hb dL_law_1457 rfl (fun c37 => ?_) (fun c37 => ?_)
              · have h := h_f c37 h
                exact lab1498 l18 l19 w _ _ (by omega) (by omega) _ _ _ (lv_sub hl [0, 1, 2, 3, 4, 5, 6, 8, 9, 10, 11, 12, 13, 14] rfl) S h
              · have h := h_t c37 h
                refine lv_iload hx hb dL_law_1460 (lv_at hl 14 rfl) ?_
                refine lv_iload hx hb dL_law_1462 (lv_at hl 12 rfl) ?_
                refine lv_icmp_eq (tgt := 1474) hx hb dL_law_1464 rfl (fun c38 => ?_) (fun c38 => ?_)
                · have h := h_t c38 h
                  exact lab1474 l18 l19 w _ _ (by omega) (by omega) _ _ _ (lv_sub hl [0, 1, 2, 3, 4, 5, 6, 8, 9, 10, 11, 12, 13, 14] rfl) S h
                · have h := h_f c38 h
                  refine lv_iload hx hb dL_law_1467 (lv_at hl 11 rfl) ?_
                  refine lv_iconst (v := 4) hx hb dL_law_1469 (by decide) ?_
                  obtain ⟨g39, h⟩ := h_gd h
                  refine lv_irem hx hb dL_law_1470 (nz_of g39) ?_
                  refine lv_if_gt (tgt := 1494) hx hb dL_law_1471 rfl (fun c40 => ?_) (fun c40 => ?_)
                  · have h := h_t c40 h
                    exact lab1494 l18 l19 w _ _ (by omega) (by omega) _ _ _ (lv_sub hl [0, 1, 2, 3, 4, 5, 6, 8, 9, 10, 11, 12, 13, 14] rfl) S h
                  · have h := h_f c40 h
                    exact lab1474 l18 l19 w _ _ (by omega) (by omega) _ _ _ (lv_sub hl [0, 1, 2, 3, 4, 5, 6, 8, 9, 10, 11, 12, 13, 14] rfl) S h
      have lab1428 : ∀ (l7 : Int32) (l9 : Int32) (l10 : Int32) (l11 : Int32) (l12 : Int32) (l16 : Int32) (w : Wt) (cl sl : Nat) (hc : cl + (1176 + (n139 * 1572)) ≤ 81604) (hs : sl + 6 * (1176 + (n139 * 1572)) ≤ 489624) (H : Heap) (locs : List Loc) (ls : Array Slot), lv_has ls 22 [(0, .ref bb), (1, .ref (q 0)), (2, .ref (q 72)), (3, .ref (q 73)), (4, .ref (q 74)), (5, .ref (q 75)), (6, .ref (q 76)), (7, .int l7), (9, .int l9), (10, .int l10), (11, .int l11), (12, .int l12), (16, .int l16)] → Sta KL D dA q A s.heap w H locs → Option.bind (l_law_b1428 xs L l7 l9 l10 l11 l12 l16 w) (seqF (fun s9 => Option.bind (lp (l_law_L139 xs L) n139 s9) (fun x9 => Option.bind (l_law_x139 xs L x9) some)) (fun x9 => Option.bind (l_law_x139 xs L x9) some)) = some z → W p l e R s m args below meth c H locs cl sl Q (F0 m 1428 ls []) := by
        intro l7 l9 l10 l11 l12 l16 w cl sl hc hs H locs ls hl S h
        unfold l_law_b1428 at h
        refine lv_iconst (v := 0) hx hb dL_law_1428 (by decide) ?_
        refine lv_istore (lv' := [(18, .int (0 : Int32)), (0, .ref bb), (1, .ref (q 0)), (2, .ref (q 72)), (3, .ref (q 73)), (4, .ref (q 74)), (5, .ref (q 75)), (6, .ref (q 76)), (7, .int l7), (9, .int l9), (10, .int l10), (11, .int l11), (12, .int l12), (16, .int l16)]) hx hb dL_law_1429 hl (Nat.le_of_ble_eq_true rfl) rfl (fun ls hl => ?_)
        refine lv_iconst (v := 0) hx hb dL_law_1431 (by decide) ?_
        refine lv_istore (lv' := [(19, .int (0 : Int32)), (18, .int (0 : Int32)), (0, .ref bb), (1, .ref (q 0)), (2, .ref (q 72)), (3, .ref (q 73)), (4, .ref (q 74)), (5, .ref (q 75)), (6, .ref (q 76)), (7, .int l7), (9, .int l9), (10, .int l10), (11, .int l11), (12, .int l12), (16, .int l16)]) hx hb dL_law_1432 hl (Nat.le_of_ble_eq_true rfl) rfl (fun ls hl => ?_)
        exact loop1434 l9 l10 l11 l12 l16 7 l7 (0 : Int32) (0 : Int32) w _ _ (by omega) (by omega) _ _ _ (lv_sub hl [2, 3, 4, 5, 6, 7, 8, 9, 10, 11, 12, 13, 14, 1, 0] rfl) S (h_bb h)
      have lab1414 : ∀ (l9 : Int32) (l10 : Int32) (l11 : Int32) (l12 : Int32) (l16 : Int32) (l17 : Int32) (w : Wt) (cl sl : Nat) (hc : cl + (1484 + (n139 * 1572)) ≤ 81604) (hs : sl + 6 * (1484 + (n139 * 1572)) ≤ 489624) (H : Heap) (locs : List Loc) (ls : Array Slot), lv_has ls 22 [(0, .ref bb), (1, .ref (q 0)), (2, .ref (q 72)), (3, .ref (q 73)), (4, .ref (q 74)), (5, .ref (q 75)), (6, .ref (q 76)), (9, .int l9), (10, .int l10), (11, .int l11), (12, .int l12), (16, .int l16), (17, .int l17)] → Sta KL D dA q A s.heap w H locs → Option.bind (l_law_b1414 xs L l9 l10 l11 l12 l16 l17 w) (seqF (fun s9 => Option.bind (lp (l_law_L139 xs L) n139 s9) (fun x9 => Option.bind (l_law_x139 xs L x9) some)) (fun x9 => Option.bind (l_law_x139 xs L x9) some)) = some z → W p l e R s m args below meth c H locs cl sl Q (F0 m 1414 ls []) := by
        intro l9 l10 l11 l12 l16 l17 w cl sl hc hs H locs ls hl S h
        unfold l_law_b1414 at h
        refine lv_aload_n hx hb dL_law_1414 rfl (lv_at hl 1 rfl) ?_
        refine lv_aload_n hx hb dL_law_1415 rfl (lv_at hl 2 rfl) ?_
        refine lv_iconst (v := 1) hx hb dL_law_1416 (by decide) ?_
        refine lv_iload hx hb dL_law_1417 (lv_at hl 12 rfl) ?_
        refine lv_bipush (v := 12) hx hb dL_law_1419 (by decide) ?_
        obtain ⟨g41, h⟩ := h_gd h
        refine lv_irem hx hb dL_law_1421 (nz_of g41) ?_
        refine lv_iadd hx hb dL_law_1422 ?_
        obtain ⟨x42, ex42, h⟩ := h_c h
        refine kb_i C S (q_S (rest := []) (As := [.ref (q 0), .ref (q 72), .int ((1 : Int32) + (l17 - l17 / (12 : Int32) * (12 : Int32)))]) lk_RL_191 ev hx hb hml C S (c_l_isFault l hfl D dA q ((1 : Int32) + (l17 - l17 / (12 : Int32) * (12 : Int32))) w x42.2 x42.1 ex42 _) rfl rfl ⟨Nat.le_trans (Nat.le_of_ble_eq_true rfl) hRf, Nat.le_trans (Nat.le_of_ble_eq_true rfl) hRl⟩ rfl hl.1 rfl (Nat.le_of_ble_eq_true rfl) dL_law_1423 ⟨by omega, by omega⟩) (fun w43 ew43 H locs S => ?_)
        have h := h_l h w43 ew43
        refine lv_topi (fun v44 ev44 => ?_)
        have h := h_l h v44 ev44
        refine lv_istore (lv' := [(7, .int v44), (0, .ref bb), (1, .ref (q 0)), (2, .ref (q 72)), (3, .ref (q 73)), (4, .ref (q 74)), (5, .ref (q 75)), (6, .ref (q 76)), (9, .int l9), (10, .int l10), (11, .int l11), (12, .int l12), (16, .int l16), (17, .int l17)]) hx hb dL_law_1426 hl (Nat.le_of_ble_eq_true rfl) rfl (fun ls hl => ?_)
        exact lab1428 v44 l9 l10 l11 l12 l16 w43 _ _ (by omega) (by omega) _ _ _ (lv_sub hl [1, 2, 3, 4, 5, 6, 7, 0, 8, 9, 10, 11, 12] rfl) S h
      have loop1372 : ∀ (l9 : Int32) (l10 : Int32) (l11 : Int32) (l12 : Int32) (l16 : Int32) (l17 : Int32) (n1372 : Nat), ∀ (l18 : Int32) (w : Wt) (cl sl : Nat) (hc : cl + (1484 + (n1372 * 0 + n139 * 1572)) ≤ 81604) (hs : sl + 6 * (1484 + (n1372 * 0 + n139 * 1572)) ≤ 489624) (H : Heap) (locs : List Loc) (ls : Array Slot), lv_has ls 22 [(0, .ref bb), (1, .ref (q 0)), (2, .ref (q 72)), (3, .ref (q 73)), (4, .ref (q 74)), (5, .ref (q 75)), (6, .ref (q 76)), (9, .int l9), (10, .int l10), (11, .int l11), (12, .int l12), (16, .int l16), (17, .int l17), (18, .int l18)] → Sta KL D dA q A s.heap w H locs → Option.bind (lp (l_law_L1372 xs L l9 l10 l11 l12 l16 l17) n1372 (l18, w)) (fun x9 => Option.bind (l_law_x1372 xs L l9 l10 l11 l12 l16 l17 x9) (seqF (fun s9 => Option.bind (lp (l_law_L139 xs L) n139 s9) (fun x9 => Option.bind (l_law_x139 xs L x9) some)) (fun x9 => Option.bind (l_law_x139 xs L x9) some))) = some z → W p l e R s m args below meth c H locs cl sl Q (F0 m 1372 ls []) := by
        intro l9 l10 l11 l12 l16 l17 n1372
        induction n1372 with
        | zero =>
          intro l18 w cl sl hc hs H locs ls hl S h
          exact (h_lp0 h).elim
        | succ n1372 ih1372 =>
          intro l18 w cl sl hc hs H locs ls hl S h
          have h := h_lp h
          unfold l_law_L1372 at h
          refine lv_iload hx hb dL_law_1372 (lv_at hl 13 rfl) ?_
          refine lv_bipush (v := 12) hx hb dL_law_1374 (by decide) ?_
          refine lv_icmp_ge (tgt := 1414) hx hb dL_law_1376 rfl (fun c45 => ?_) (fun c45 => ?_)
          · have h := h_t c45 h
            exact lab1414 l9 l10 l11 l12 l16 l17 w _ _ (by omega) (by omega) _ _ _ (lv_sub hl [0, 1, 2, 3, 4, 5, 6, 7, 8, 9, 10, 11, 12] rfl) S h
          · have h := h_f c45 h
            refine lv_aload_n hx hb dL_law_1379 rfl (lv_at hl 2 rfl) ?_
            refine lv_iload hx hb dL_law_1380 (lv_at hl 13 rfl) ?_
            refine lv_aload_n hx hb dL_law_1382 rfl (lv_at hl 0 rfl) ?_
            refine lv_iload hx hb dL_law_1383 (lv_at hl 10 rfl) ?_
            refine lv_iconst (v := 5) hx hb dL_law_1385 (by decide) ?_
            refine lv_iload hx hb dL_law_1386 (lv_at hl 13 rfl) ?_
            refine lv_imul hx hb dL_law_1388 ?_
            refine lv_iadd hx hb dL_law_1389 ?_
            refine lv_bipush (v := 63) hx hb dL_law_1390 (by decide) ?_
            obtain ⟨g46, h⟩ := h_gd h
            refine lv_irem hx hb dL_law_1392 (nz_of g46) ?_
            obtain ⟨x47, ex47, h⟩ := h_c h
            refine k_cell (rest := [.int l18, .ref (q 72)]) hx hb hml C S hX hbl hbA ex47 ⟨Nat.le_trans (Nat.le_of_ble_eq_true rfl) hRf, Nat.le_trans (Nat.le_of_ble_eq_true rfl) hRl⟩ hl.1 (Nat.le_of_ble_eq_true rfl) dL_law_1393 ⟨by omega, by omega⟩ (fun H locs S => ?_)
            refine lv_iconst (v := 3) hx hb dL_law_1396 (by decide) ?_
            obtain ⟨g48, h⟩ := h_gd h
            refine lv_idiv hx hb dL_law_1397 (nz_of g48) ?_
            refine lv_bipush (v := 7) hx hb dL_law_1398 (by decide) ?_
            refine lv_iload hx hb dL_law_1400 (lv_at hl 13 rfl) ?_
            refine lv_imul hx hb dL_law_1402 ?_
            refine lv_iadd hx hb dL_law_1403 ?_
            obtain ⟨x49, ex49, h⟩ := h_c h
            refine kb_i0 C S (q_S (rest := [.int l18, .ref (q 72)]) (As := [.int ((x47 / (3 : Int32)) + ((7 : Int32) * l18))]) lk_RL_188 ev hx hb hml C S (c_l_sign l D dA q ((x47 / (3 : Int32)) + ((7 : Int32) * l18)) w x49 ex49 _) rfl rfl ⟨Nat.le_trans (Nat.le_of_ble_eq_true rfl) hRf, Nat.le_trans (Nat.le_of_ble_eq_true rfl) hRl⟩ rfl hl.1 rfl (Nat.le_of_ble_eq_true rfl) dL_law_1404 ⟨by omega, by omega⟩) (fun H locs S => ?_)
            obtain ⟨g50, h⟩ := h_gd h
            refine r_iast hx hb C S KL_72 (h_in g50) dL_law_1407 (fun w51 ew51 H locs S => ?_)
            have h := h_l h w51 ew51
            refine lv_iinc (v := (l18 + 1)) (lv' := [(18, .int (l18 + 1)), (0, .ref bb), (1, .ref (q 0)), (2, .ref (q 72)), (3, .ref (q 73)), (4, .ref (q 74)), (5, .ref (q 75)), (6, .ref (q 76)), (9, .int l9), (10, .int l10), (11, .int l11), (12, .int l12), (16, .int l16), (17, .int l17)]) hx hb dL_law_1408 hl (k := 13) rfl rfl (Nat.le_of_ble_eq_true rfl) rfl (fun ls hl => ?_)
            refine lv_goto (tgt := 1372) hx hb dL_law_1411 rfl ?_
            exact ih1372 (l18 + 1) w51 _ _ (by omega) (by omega) _ _ _ (lv_sub hl [1, 2, 3, 4, 5, 6, 7, 8, 9, 10, 11, 12, 13, 0] rfl) S h
      have lab1364 : ∀ (l9 : Int32) (l10 : Int32) (l11 : Int32) (l12 : Int32) (l16 : Int32) (t0 : Int32) (w : Wt) (cl sl : Nat) (hc : cl + (1176 + (n139 * 1572)) ≤ 81604) (hs : sl + 6 * (1176 + (n139 * 1572)) ≤ 489624) (H : Heap) (locs : List Loc) (ls : Array Slot), lv_has ls 22 [(0, .ref bb), (1, .ref (q 0)), (2, .ref (q 72)), (3, .ref (q 73)), (4, .ref (q 74)), (5, .ref (q 75)), (6, .ref (q 76)), (9, .int l9), (10, .int l10), (11, .int l11), (12, .int l12), (16, .int l16)] → Sta KL D dA q A s.heap w H locs → Option.bind (l_law_b1364 xs L l9 l10 l11 l12 l16 t0 w) (seqF (fun s9 => Option.bind (lp (l_law_L139 xs L) n139 s9) (fun x9 => Option.bind (l_law_x139 xs L x9) some)) (fun x9 => Option.bind (l_law_x139 xs L x9) some)) = some z → W p l e R s m args below meth c H locs cl sl Q (F0 m 1364 ls [.int t0]) := by
        intro l9 l10 l11 l12 l16 t0 w cl sl hc hs H locs ls hl S h
        unfold l_law_b1364 at h
        refine lv_istore (lv' := [(7, .int t0), (0, .ref bb), (1, .ref (q 0)), (2, .ref (q 72)), (3, .ref (q 73)), (4, .ref (q 74)), (5, .ref (q 75)), (6, .ref (q 76)), (9, .int l9), (10, .int l10), (11, .int l11), (12, .int l12), (16, .int l16)]) hx hb dL_law_1364 hl (Nat.le_of_ble_eq_true rfl) rfl (fun ls hl => ?_)
        refine lv_goto (tgt := 1428) hx hb dL_law_1366 rfl ?_
        exact lab1428 t0 l9 l10 l11 l12 l16 w _ _ (by omega) (by omega) _ _ _ (lv_sub hl [1, 2, 3, 4, 5, 6, 7, 0, 8, 9, 10, 11, 12] rfl) S h
      have lab1363 : ∀ (l9 : Int32) (l10 : Int32) (l11 : Int32) (l12 : Int32) (l16 : Int32) (w : Wt) (cl sl : Nat) (hc : cl + (1176 + (n139 * 1572)) ≤ 81604) (hs : sl + 6 * (1176 + (n139 * 1572)) ≤ 489624) (H : Heap) (locs : List Loc) (ls : Array Slot), lv_has ls 22 [(0, .ref bb), (1, .ref (q 0)), (2, .ref (q 72)), (3, .ref (q 73)), (4, .ref (q 74)), (5, .ref (q 75)), (6, .ref (q 76)), (9, .int l9), (10, .int l10), (11, .int l11), (12, .int l12), (16, .int l16)] → Sta KL D dA q A s.heap w H locs → Option.bind (l_law_b1363 xs L l9 l10 l11 l12 l16 w) (seqF (fun s9 => Option.bind (lp (l_law_L139 xs L) n139 s9) (fun x9 => Option.bind (l_law_x139 xs L x9) some)) (fun x9 => Option.bind (l_law_x139 xs L x9) some)) = some z → W p l e R s m args below meth c H locs cl sl Q (F0 m 1363 ls []) := by
        intro l9 l10 l11 l12 l16 w cl sl hc hs H locs ls hl S h
        unfold l_law_b1363 at h
        refine lv_iconst (v := 0) hx hb dL_law_1363 (by decide) ?_
        exact lab1364 l9 l10 l11 l12 l16 (0 : Int32) w _ _ (by omega) (by omega) _ _ _ (lv_sub hl [0, 1, 2, 3, 4, 5, 6, 7, 8, 9, 10, 11] rfl) S h
      have lab1334 : ∀ (l9 : Int32) (l10 : Int32) (l11 : Int32) (l12 : Int32) (l16 : Int32) (l17 : Int32) (t0 : Int32) (w : Wt) (cl sl : Nat) (hc : cl + (1180 + (n139 * 1572)) ≤ 81604) (hs : sl + 6 * (1180 + (n139 * 1572)) ≤ 489624) (H : Heap) (locs : List Loc) (ls : Array Slot), lv_has ls 22 [(0, .ref bb), (1, .ref (q 0)), (2, .ref (q 72)), (3, .ref (q 73)), (4, .ref (q 74)), (5, .ref (q 75)), (6, .ref (q 76)), (9, .int l9), (10, .int l10), (11, .int l11), (12, .int l12), (16, .int l16), (17, .int l17)] → Sta KL D dA q A s.heap w H locs → Option.bind (l_law_b1334 xs L l9 l10 l11 l12 l16 l17 t0 w) (seqF (fun s9 => Option.bind (lp (l_law_L139 xs L) n139 s9) (fun x9 => Option.bind (l_law_x139 xs L x9) some)) (fun x9 => Option.bind (l_law_x139 xs L x9) some)) = some z → W p l e R s m args below meth c H locs cl sl Q (F0 m 1334 ls [.int t0]) := by
        intro l9 l10 l11 l12 l16 l17 t0 w cl sl hc hs H locs ls hl S h
        unfold l_law_b1334 at h
        refine lv_istore (lv' := [(19, .int t0), (0, .ref bb), (1, .ref (q 0)), (2, .ref (q 72)), (3, .ref (q 73)), (4, .ref (q 74)), (5, .ref (q 75)), (6, .ref (q 76)), (9, .int l9), (10, .int l10), (11, .int l11), (12, .int l12), (16, .int l16), (17, .int l17)]) hx hb dL_law_1334 hl (Nat.le_of_ble_eq_true rfl) rfl (fun ls hl => ?_)
        refine lv_iload hx hb dL_law_1336 (lv_at hl 0 rfl) ?_
        refine lv_if_lt (tgt := 1363) hx hb dL_law_1338 rfl (fun c52 => ?_) (fun c52 => ?_)
        · have h := h_t c52 h
          exact lab1363 l9 l10 l11 l12 l16 w _ _ (by omega) (by omega) _ _ _ (lv_sub hl [1, 2, 3, 4, 5, 6, 7, 8, 9, 10, 11, 12] rfl) S h
        · have h := h_f c52 h
          refine lv_iload hx hb dL_law_1341 (lv_at hl 0 rfl) ?_
          refine lv_iload hx hb dL_law_1343 (lv_at hl 8 rfl) ?_
          refine lv_icmp_gt (tgt := 1363) hx hb dL_law_1345 rfl (fun c53 => ?_) (fun c53 => ?_)
          · have h := h_t c53 h
            exact lab1363 l9 l10 l11 l12 l16 w _ _ (by omega) (by omega) _ _ _ (lv_sub hl [1, 2, 3, 4, 5, 6, 7, 8, 9, 10, 11, 12] rfl) S h
          · have h := h_f c53 h
            refine lv_aload_n hx hb dL_law_1348 rfl (lv_at hl 2 rfl) ?_
            refine lv_iload hx hb dL_law_1349 (lv_at hl 13 rfl) ?_
            refine lv_iconst (v := 3) hx hb dL_law_1351 (by decide) ?_
            obtain ⟨g54, h⟩ := h_gd h
            refine lv_irem hx hb dL_law_1352 (nz_of g54) ?_
            obtain ⟨x55, ex55, h⟩ := h_c h
            refine kl_i C S (w_S (rest := []) (As := [.ref (q 0), .int (l17 - l17 / (3 : Int32) * (3 : Int32))]) lw_118 hx hb hml C S (c_l_mend l hfl D dA q (l17 - l17 / (3 : Int32) * (3 : Int32)) w x55.2 x55.1 ex55) ⟨Nat.le_trans (Nat.le_of_ble_eq_true rfl) hRf, Nat.le_trans (Nat.le_of_ble_eq_true rfl) hRl⟩ rfl hl.1 rfl (Nat.le_of_ble_eq_true rfl) dL_law_1353 ⟨by omega, by omega⟩) (fun w56 ew56 H locs S => ?_)
            have h := h_l h w56 ew56
            refine lv_if_ne (tgt := 1363) hx hb dL_law_1356 rfl (fun c57 => ?_) (fun c57 => ?_)
            · have h := h_f c57 h
              exact lab1363 l9 l10 l11 l12 l16 w56 _ _ (by omega) (by omega) _ _ _ (lv_sub hl [1, 2, 3, 4, 5, 6, 7, 8, 9, 10, 11, 12] rfl) S h
            · have h := h_t c57 h
              refine lv_iconst (v := 1) hx hb dL_law_1359 (by decide) ?_
              refine lv_goto (tgt := 1364) hx hb dL_law_1360 rfl ?_
              exact lab1364 l9 l10 l11 l12 l16 (1 : Int32) w56 _ _ (by omega) (by omega) _ _ _ (lv_sub hl [1, 2, 3, 4, 5, 6, 7, 8, 9, 10, 11, 12] rfl) S h
      have lab1284 : ∀ (l9 : Int32) (l10 : Int32) (l11 : Int32) (l12 : Int32) (l16 : Int32) (l18 : Int32) (t0 : Int32) (w : Wt) (cl sl : Nat) (hc : cl + (1176 + (n139 * 1572)) ≤ 81604) (hs : sl + 6 * (1176 + (n139 * 1572)) ≤ 489624) (H : Heap) (locs : List Loc) (ls : Array Slot), lv_has ls 22 [(0, .ref bb), (1, .ref (q 0)), (2, .ref (q 72)), (3, .ref (q 73)), (4, .ref (q 74)), (5, .ref (q 75)), (6, .ref (q 76)), (9, .int l9), (10, .int l10), (11, .int l11), (12, .int l12), (16, .int l16), (18, .int l18)] → Sta KL D dA q A s.heap w H locs → Option.bind (l_law_b1284 xs L l9 l10 l11 l12 l16 l18 t0 w) (seqF (fun s9 => Option.bind (lp (l_law_L139 xs L) n139 s9) (fun x9 => Option.bind (l_law_x139 xs L x9) some)) (fun x9 => Option.bind (l_law_x139 xs L x9) some)) = some z → W p l e R s m args below meth c H locs cl sl Q (F0 m 1284 ls [.int t0]) := by
        intro l9 l10 l11 l12 l16 l18 t0 w cl sl hc hs H locs ls hl S h
        unfold l_law_b1284 at h
        refine lv_istore (lv' := [(7, .int t0), (0, .ref bb), (1, .ref (q 0)), (2, .ref (q 72)), (3, .ref (q 73)), (4, .ref (q 74)), (5, .ref (q 75)), (6, .ref (q 76)), (9, .int l9), (10, .int l10), (11, .int l11), (12, .int l12), (16, .int l16), (18, .int l18)]) hx hb dL_law_1284 hl (Nat.le_of_ble_eq_true rfl) rfl (fun ls hl => ?_)
        refine lv_aload hx hb dL_law_1286 (lv_at hl 6 rfl) ?_
        refine lv_iload hx hb dL_law_1288 (lv_at hl 12 rfl) ?_
        refine lv_iload hx hb dL_law_1290 (lv_at hl 13 rfl) ?_
        obtain ⟨g58, h⟩ := h_gd h
        refine r_iast hx hb C S KL_75 (h_in g58) dL_law_1292 (fun w59 ew59 H locs S => ?_)
        have h := h_l h w59 ew59
        refine lv_goto (tgt := 1428) hx hb dL_law_1293 rfl ?_
        exact lab1428 t0 l9 l10 l11 l12 l16 w59 _ _ (by omega) (by omega) _ _ _ (lv_sub hl [1, 2, 3, 4, 5, 6, 7, 0, 8, 9, 10, 11, 12] rfl) S h
      have lab1283 : ∀ (l9 : Int32) (l10 : Int32) (l11 : Int32) (l12 : Int32) (l16 : Int32) (l18 : Int32) (w : Wt) (cl sl : Nat) (hc : cl + (1176 + (n139 * 1572)) ≤ 81604) (hs : sl + 6 * (1176 + (n139 * 1572)) ≤ 489624) (H : Heap) (locs : List Loc) (ls : Array Slot), lv_has ls 22 [(0, .ref bb), (1, .ref (q 0)), (2, .ref (q 72)), (3, .ref (q 73)), (4, .ref (q 74)), (5, .ref (q 75)), (6, .ref (q 76)), (9, .int l9), (10, .int l10), (11, .int l11), (12, .int l12), (16, .int l16), (18, .int l18)] → Sta KL D dA q A s.heap w H locs → Option.bind (l_law_b1283 xs L l9 l10 l11 l12 l16 l18 w) (seqF (fun s9 => Option.bind (lp (l_law_L139 xs L) n139 s9) (fun x9 => Option.bind (l_law_x139 xs L x9) some)) (fun x9 => Option.bind (l_law_x139 xs L x9) some)) = some z → W p l e R s m args below meth c H locs cl sl Q (F0 m 1283 ls []) := by
        intro l9 l10 l11 l12 l16 l18 w cl sl hc hs H locs ls hl S h
        unfold l_law_b1283 at h
        refine lv_iconst (v := 0) hx hb dL_law_1283 (by decide) ?_
        exact lab1284 l9 l10 l11 l12 l16 l18 (0 : Int32) w _ _ (by omega) (by omega) _ _ _ (lv_sub hl [0, 1, 2, 3, 4, 5, 6, 7, 8, 9, 10, 11, 12] rfl) S h
      have lab1268 : ∀ (l9 : Int32) (l10 : Int32) (l11 : Int32) (l12 : Int32) (l16 : Int32) (l18 : Int32) (w : Wt) (cl sl : Nat) (hc : cl + (1180 + (n139 * 1572)) ≤ 81604) (hs : sl + 6 * (1180 + (n139 * 1572)) ≤ 489624) (H : Heap) (locs : List Loc) (ls : Array Slot), lv_has ls 22 [(0, .ref bb), (1, .ref (q 0)), (2, .ref (q 72)), (3, .ref (q 73)), (4, .ref (q 74)), (5, .ref (q 75)), (6, .ref (q 76)), (9, .int l9), (10, .int l10), (11, .int l11), (12, .int l12), (16, .int l16), (18, .int l18)] → Sta KL D dA q A s.heap w H locs → Option.bind (l_law_b1268 xs L l9 l10 l11 l12 l16 l18 w) (seqF (fun s9 => Option.bind (lp (l_law_L139 xs L) n139 s9) (fun x9 => Option.bind (l_law_x139 xs L x9) some)) (fun x9 => Option.bind (l_law_x139 xs L x9) some)) = some z → W p l e R s m args below meth c H locs cl sl Q (F0 m 1268 ls []) := by
        intro l9 l10 l11 l12 l16 l18 w cl sl hc hs H locs ls hl S h
        unfold l_law_b1268 at h
        refine lv_aload_n hx hb dL_law_1268 rfl (lv_at hl 1 rfl) ?_
        refine lv_iload hx hb dL_law_1269 (lv_at hl 11 rfl) ?_
        obtain ⟨x60, ex60, h⟩ := h_c h
        refine kl_i0 C S (w_S (rest := []) (As := [.ref (q 0), .int l16]) lw_168 hx hb hml C S (c_l_certified l hfl D dA q l16 w x60 ex60) ⟨Nat.le_trans (Nat.le_of_ble_eq_true rfl) hRf, Nat.le_trans (Nat.le_of_ble_eq_true rfl) hRl⟩ rfl hl.1 rfl (Nat.le_of_ble_eq_true rfl) dL_law_1271 ⟨by omega, by omega⟩) (fun H locs S => ?_)
        refine lv_iload hx hb dL_law_1274 (lv_at hl 12 rfl) ?_
        refine lv_icmp_ne (tgt := 1283) hx hb dL_law_1276 rfl (fun c61 => ?_) (fun c61 => ?_)
        · have h := h_f c61 h
          exact lab1283 l9 l10 l11 l12 l16 l18 w _ _ (by omega) (by omega) _ _ _ (lv_sub hl [0, 1, 2, 3, 4, 5, 6, 7, 8, 9, 10, 11, 12] rfl) S h
        · have h := h_t c61 h
          refine lv_iconst (v := 1) hx hb dL_law_1279 (by decide) ?_
          refine lv_goto (tgt := 1284) hx hb dL_law_1280 rfl ?_
          exact lab1284 l9 l10 l11 l12 l16 l18 (1 : Int32) w _ _ (by omega) (by omega) _ _ _ (lv_sub hl [0, 1, 2, 3, 4, 5, 6, 7, 8, 9, 10, 11, 12] rfl) S h
      have lab1197 : ∀ (l9 : Int32) (l10 : Int32) (l11 : Int32) (l12 : Int32) (l16 : Int32) (t0 : Int32) (w : Wt) (cl sl : Nat) (hc : cl + (1196 + (n139 * 1572)) ≤ 81604) (hs : sl + 6 * (1196 + (n139 * 1572)) ≤ 489624) (H : Heap) (locs : List Loc) (ls : Array Slot), lv_has ls 22 [(0, .ref bb), (1, .ref (q 0)), (2, .ref (q 72)), (3, .ref (q 73)), (4, .ref (q 74)), (5, .ref (q 75)), (6, .ref (q 76)), (9, .int l9), (10, .int l10), (11, .int l11), (12, .int l12), (16, .int l16)] → Sta KL D dA q A s.heap w H locs → Option.bind (l_law_b1197 xs L l9 l10 l11 l12 l16 t0 w) (seqF (fun s9 => Option.bind (lp (l_law_L139 xs L) n139 s9) (fun x9 => Option.bind (l_law_x139 xs L x9) some)) (fun x9 => Option.bind (l_law_x139 xs L x9) some)) = some z → W p l e R s m args below meth c H locs cl sl Q (F0 m 1197 ls [.int t0]) := by
        intro l9 l10 l11 l12 l16 t0 w cl sl hc hs H locs ls hl S h
        unfold l_law_b1197 at h
        refine lv_istore (lv' := [(7, .int t0), (0, .ref bb), (1, .ref (q 0)), (2, .ref (q 72)), (3, .ref (q 73)), (4, .ref (q 74)), (5, .ref (q 75)), (6, .ref (q 76)), (9, .int l9), (10, .int l10), (11, .int l11), (12, .int l12), (16, .int l16)]) hx hb dL_law_1197 hl (Nat.le_of_ble_eq_true rfl) rfl (fun ls hl => ?_)
        refine lv_aload_n hx hb dL_law_1199 rfl (lv_at hl 2 rfl) ?_
        refine lv_iload hx hb dL_law_1200 (lv_at hl 12 rfl) ?_
        obtain ⟨x62, ex62, h⟩ := h_c h
        refine kl_i C S (w_S (rest := []) (As := [.ref (q 0), .int l16]) lw_123 hx hb hml C S (c_l_winners l hfl D dA q l16 w x62.2 x62.1 ex62) ⟨Nat.le_trans (Nat.le_of_ble_eq_true rfl) hRf, Nat.le_trans (Nat.le_of_ble_eq_true rfl) hRl⟩ rfl hl.1 rfl (Nat.le_of_ble_eq_true rfl) dL_law_1202 ⟨by omega, by omega⟩) (fun w63 ew63 H locs S => ?_)
        have h := h_l h w63 ew63
        refine lv_topi (fun v64 ev64 => ?_)
        have h := h_l h v64 ev64
        refine lv_istore (lv' := [(18, .int v64), (7, .int t0), (0, .ref bb), (1, .ref (q 0)), (2, .ref (q 72)), (3, .ref (q 73)), (4, .ref (q 74)), (5, .ref (q 75)), (6, .ref (q 76)), (9, .int l9), (10, .int l10), (11, .int l11), (12, .int l12), (16, .int l16)]) hx hb dL_law_1205 hl (Nat.le_of_ble_eq_true rfl) rfl (fun ls hl => ?_)
        refine lv_aload_n hx hb dL_law_1207 rfl (lv_at hl 3 rfl) ?_
        refine lv_iload hx hb dL_law_1208 (lv_at hl 13 rfl) ?_
        obtain ⟨x65, ex65, h⟩ := h_c h
        refine kl_i C S (w_S (rest := []) (As := [.ref (q 0), .int l16]) lw_184 hx hb hml C S (c_l_certify l hfl D dA q l16 w63 x65.2 x65.1 ex65) ⟨Nat.le_trans (Nat.le_of_ble_eq_true rfl) hRf, Nat.le_trans (Nat.le_of_ble_eq_true rfl) hRl⟩ rfl hl.1 rfl (Nat.le_of_ble_eq_true rfl) dL_law_1210 ⟨by omega, by omega⟩) (fun w66 ew66 H locs S => ?_)
        have h := h_l h w66 ew66
        refine lv_topi (fun v67 ev67 => ?_)
        have h := h_l h v67 ev67
        refine lv_istore (lv' := [(19, .int v67), (18, .int v64), (7, .int t0), (0, .ref bb), (1, .ref (q 0)), (2, .ref (q 72)), (3, .ref (q 73)), (4, .ref (q 74)), (5, .ref (q 75)), (6, .ref (q 76)), (9, .int l9), (10, .int l10), (11, .int l11), (12, .int l12), (16, .int l16)]) hx hb dL_law_1213 hl (Nat.le_of_ble_eq_true rfl) rfl (fun ls hl => ?_)
        refine lv_iload hx hb dL_law_1215 (lv_at hl 2 rfl) ?_
        refine lv_if_eq (tgt := 1283) hx hb dL_law_1217 rfl (fun c68 => ?_) (fun c68 => ?_)
        · have h := h_t c68 h
          exact lab1283 l9 l10 l11 l12 l16 v64 w66 _ _ (by omega) (by omega) _ _ _ (lv_sub hl [3, 4, 5, 6, 7, 8, 9, 10, 11, 12, 13, 14, 1] rfl) S h
        · have h := h_f c68 h
          refine lv_iload hx hb dL_law_1220 (lv_at hl 0 rfl) ?_
          refine lv_bipush (v := -103) hx hb dL_law_1222 (by decide) ?_
          refine lv_icmp_ne (tgt := 1250) hx hb dL_law_1224 rfl (fun c69 => ?_) (fun c69 => ?_)
          · have h := h_f c69 h
            refine lv_iload hx hb dL_law_1250 (lv_at hl 0 rfl) ?_
            refine lv_iload hx hb dL_law_1252 (lv_at hl 1 rfl) ?_
            refine lv_icmp_ne (tgt := 1283) hx hb dL_law_1254 rfl (fun c70 => ?_) (fun c70 => ?_)
            · have h := h_f c70 h
              exact lab1283 l9 l10 l11 l12 l16 v64 w66 _ _ (by omega) (by omega) _ _ _ (lv_sub hl [3, 4, 5, 6, 7, 8, 9, 10, 11, 12, 13, 14, 1] rfl) S h
            · have h := h_t c70 h
              refine lv_aload_n hx hb dL_law_1257 rfl (lv_at hl 4 rfl) ?_
              refine lv_iload hx hb dL_law_1258 (lv_at hl 14 rfl) ?_
              obtain ⟨x71, ex71, h⟩ := h_c h
              refine kl_i C S (w_S (rest := []) (As := [.ref (q 0), .int l16]) lw_186 hx hb hml C S (c_l_close l hfl D dA q l16 w66 x71.2 x71.1 ex71) ⟨Nat.le_trans (Nat.le_of_ble_eq_true rfl) hRf, Nat.le_trans (Nat.le_of_ble_eq_true rfl) hRl⟩ rfl hl.1 rfl (Nat.le_of_ble_eq_true rfl) dL_law_1260 ⟨by omega, by omega⟩) (fun w72 ew72 H locs S => ?_)
              have h := h_l h w72 ew72
              refine lv_bipush (v := -103) hx hb dL_law_1263 (by decide) ?_
              refine lv_icmp_ne (tgt := 1283) hx hb dL_law_1265 rfl (fun c73 => ?_) (fun c73 => ?_)
              · have h := h_f c73 h
                exact lab1283 l9 l10 l11 l12 l16 v64 w72 _ _ (by omega) (by omega) _ _ _ (lv_sub hl [3, 4, 5, 6, 7, 8, 9, 10, 11, 12, 13, 14, 1] rfl) S h
              · have h := h_t c73 h
                exact lab1268 l9 l10 l11 l12 l16 v64 w72 _ _ (by omega) (by omega) _ _ _ (lv_sub hl [3, 4, 5, 6, 7, 8, 9, 10, 11, 12, 13, 14, 1] rfl) S h
          · have h := h_t c69 h
            refine lv_aload_n hx hb dL_law_1227 rfl (lv_at hl 4 rfl) ?_
            refine lv_iload hx hb dL_law_1228 (lv_at hl 14 rfl) ?_
            obtain ⟨x74, ex74, h⟩ := h_c h
            refine kl_i C S (w_S (rest := []) (As := [.ref (q 0), .int l16]) lw_186 hx hb hml C S (c_l_close l hfl D dA q l16 w66 x74.2 x74.1 ex74) ⟨Nat.le_trans (Nat.le_of_ble_eq_true rfl) hRf, Nat.le_trans (Nat.le_of_ble_eq_true rfl) hRl⟩ rfl hl.1 rfl (Nat.le_of_ble_eq_true rfl) dL_law_1230 ⟨by omega, by omega⟩) (fun w75 ew75 H locs S => ?_)
            have h := h_l h w75 ew75
            refine lv_if_lt (tgt := 1283) hx hb dL_law_1233 rfl (fun c76 => ?_) (fun c76 => ?_)
            · have h := h_t c76 h
              exact lab1283 l9 l10 l11 l12 l16 v64 w75 _ _ (by omega) (by omega) _ _ _ (lv_sub hl [3, 4, 5, 6, 7, 8, 9, 10, 11, 12, 13, 14, 1] rfl) S h
            · have h := h_f c76 h
              refine lv_aload_n hx hb dL_law_1236 rfl (lv_at hl 4 rfl) ?_
              refine lv_iload hx hb dL_law_1237 (lv_at hl 14 rfl) ?_
              obtain ⟨x77, ex77, h⟩ := h_c h
              refine kl_i C S (w_S (rest := []) (As := [.ref (q 0), .int l16]) lw_184 hx hb hml C S (c_l_certify l hfl D dA q l16 w75 x77.2 x77.1 ex77) ⟨Nat.le_trans (Nat.le_of_ble_eq_true rfl) hRf, Nat.le_trans (Nat.le_of_ble_eq_true rfl) hRl⟩ rfl hl.1 rfl (Nat.le_of_ble_eq_true rfl) dL_law_1239 ⟨by omega, by omega⟩) (fun w78 ew78 H locs S => ?_)
              have h := h_l h w78 ew78
              refine lv_iload hx hb dL_law_1242 (lv_at hl 1 rfl) ?_
              refine lv_icmp_ne (tgt := 1283) hx hb dL_law_1244 rfl (fun c79 => ?_) (fun c79 => ?_)
              · have h := h_f c79 h
                exact lab1283 l9 l10 l11 l12 l16 v64 w78 _ _ (by omega) (by omega) _ _ _ (lv_sub hl [3, 4, 5, 6, 7, 8, 9, 10, 11, 12, 13, 14, 1] rfl) S h
              · have h := h_t c79 h
                refine lv_goto (tgt := 1268) hx hb dL_law_1247 rfl ?_
                exact lab1268 l9 l10 l11 l12 l16 v64 w78 _ _ (by omega) (by omega) _ _ _ (lv_sub hl [3, 4, 5, 6, 7, 8, 9, 10, 11, 12, 13, 14, 1] rfl) S h
      have lab1196 : ∀ (l9 : Int32) (l10 : Int32) (l11 : Int32) (l12 : Int32) (l16 : Int32) (w : Wt) (cl sl : Nat) (hc : cl + (1196 + (n139 * 1572)) ≤ 81604) (hs : sl + 6 * (1196 + (n139 * 1572)) ≤ 489624) (H : Heap) (locs : List Loc) (ls : Array Slot), lv_has ls 22 [(0, .ref bb), (1, .ref (q 0)), (2, .ref (q 72)), (3, .ref (q 73)), (4, .ref (q 74)), (5, .ref (q 75)), (6, .ref (q 76)), (9, .int l9), (10, .int l10), (11, .int l11), (12, .int l12), (16, .int l16)] → Sta KL D dA q A s.heap w H locs → Option.bind (l_law_b1196 xs L l9 l10 l11 l12 l16 w) (seqF (fun s9 => Option.bind (lp (l_law_L139 xs L) n139 s9) (fun x9 => Option.bind (l_law_x139 xs L x9) some)) (fun x9 => Option.bind (l_law_x139 xs L x9) some)) = some z → W p l e R s m args below meth c H locs cl sl Q (F0 m 1196 ls []) := by
        intro l9 l10 l11 l12 l16 w cl sl hc hs H locs ls hl S h
        unfold l_law_b1196 at h
        refine lv_iconst (v := 0) hx hb dL_law_1196 (by decide) ?_
        exact lab1197 l9 l10 l11 l12 l16 (0 : Int32) w _ _ (by omega) (by omega) _ _ _ (lv_sub hl [0, 1, 2, 3, 4, 5, 6, 7, 8, 9, 10, 11] rfl) S h
      have lab1162 : ∀ (l9 : Int32) (l10 : Int32) (l11 : Int32) (l12 : Int32) (l16 : Int32) (t0 : Int32) (w : Wt) (cl sl : Nat) (hc : cl + (1176 + (n139 * 1572)) ≤ 81604) (hs : sl + 6 * (1176 + (n139 * 1572)) ≤ 489624) (H : Heap) (locs : List Loc) (ls : Array Slot), lv_has ls 22 [(0, .ref bb), (1, .ref (q 0)), (2, .ref (q 72)), (3, .ref (q 73)), (4, .ref (q 74)), (5, .ref (q 75)), (6, .ref (q 76)), (9, .int l9), (10, .int l10), (11, .int l11), (12, .int l12), (16, .int l16)] → Sta KL D dA q A s.heap w H locs → Option.bind (l_law_b1162 xs L l9 l10 l11 l12 l16 t0 w) (seqF (fun s9 => Option.bind (lp (l_law_L139 xs L) n139 s9) (fun x9 => Option.bind (l_law_x139 xs L x9) some)) (fun x9 => Option.bind (l_law_x139 xs L x9) some)) = some z → W p l e R s m args below meth c H locs cl sl Q (F0 m 1162 ls [.int t0]) := by
        intro l9 l10 l11 l12 l16 t0 w cl sl hc hs H locs ls hl S h
        unfold l_law_b1162 at h
        refine lv_istore (lv' := [(7, .int t0), (0, .ref bb), (1, .ref (q 0)), (2, .ref (q 72)), (3, .ref (q 73)), (4, .ref (q 74)), (5, .ref (q 75)), (6, .ref (q 76)), (9, .int l9), (10, .int l10), (11, .int l11), (12, .int l12), (16, .int l16)]) hx hb dL_law_1162 hl (Nat.le_of_ble_eq_true rfl) rfl (fun ls hl => ?_)
        refine lv_goto (tgt := 1428) hx hb dL_law_1164 rfl ?_
        exact lab1428 t0 l9 l10 l11 l12 l16 w _ _ (by omega) (by omega) _ _ _ (lv_sub hl [1, 2, 3, 4, 5, 6, 7, 0, 8, 9, 10, 11, 12] rfl) S h
      have lab1161 : ∀ (l9 : Int32) (l10 : Int32) (l11 : Int32) (l12 : Int32) (l16 : Int32) (w : Wt) (cl sl : Nat) (hc : cl + (1176 + (n139 * 1572)) ≤ 81604) (hs : sl + 6 * (1176 + (n139 * 1572)) ≤ 489624) (H : Heap) (locs : List Loc) (ls : Array Slot), lv_has ls 22 [(0, .ref bb), (1, .ref (q 0)), (2, .ref (q 72)), (3, .ref (q 73)), (4, .ref (q 74)), (5, .ref (q 75)), (6, .ref (q 76)), (9, .int l9), (10, .int l10), (11, .int l11), (12, .int l12), (16, .int l16)] → Sta KL D dA q A s.heap w H locs → Option.bind (l_law_b1161 xs L l9 l10 l11 l12 l16 w) (seqF (fun s9 => Option.bind (lp (l_law_L139 xs L) n139 s9) (fun x9 => Option.bind (l_law_x139 xs L x9) some)) (fun x9 => Option.bind (l_law_x139 xs L x9) some)) = some z → W p l e R s m args below meth c H locs cl sl Q (F0 m 1161 ls []) := by
        intro l9 l10 l11 l12 l16 w cl sl hc hs H locs ls hl S h
        unfold l_law_b1161 at h
        refine lv_iconst (v := 0) hx hb dL_law_1161 (by decide) ?_
        exact lab1162 l9 l10 l11 l12 l16 (0 : Int32) w _ _ (by omega) (by omega) _ _ _ (lv_sub hl [0, 1, 2, 3, 4, 5, 6, 7, 8, 9, 10, 11] rfl) S h
      have lab1157 : ∀ (l9 : Int32) (l10 : Int32) (l11 : Int32) (l12 : Int32) (l16 : Int32) (w : Wt) (cl sl : Nat) (hc : cl + (1176 + (n139 * 1572)) ≤ 81604) (hs : sl + 6 * (1176 + (n139 * 1572)) ≤ 489624) (H : Heap) (locs : List Loc) (ls : Array Slot), lv_has ls 22 [(0, .ref bb), (1, .ref (q 0)), (2, .ref (q 72)), (3, .ref (q 73)), (4, .ref (q 74)), (5, .ref (q 75)), (6, .ref (q 76)), (9, .int l9), (10, .int l10), (11, .int l11), (12, .int l12), (16, .int l16)] → Sta KL D dA q A s.heap w H locs → Option.bind (l_law_b1157 xs L l9 l10 l11 l12 l16 w) (seqF (fun s9 => Option.bind (lp (l_law_L139 xs L) n139 s9) (fun x9 => Option.bind (l_law_x139 xs L x9) some)) (fun x9 => Option.bind (l_law_x139 xs L x9) some)) = some z → W p l e R s m args below meth c H locs cl sl Q (F0 m 1157 ls []) := by
        intro l9 l10 l11 l12 l16 w cl sl hc hs H locs ls hl S h
        unfold l_law_b1157 at h
        refine lv_iconst (v := 1) hx hb dL_law_1157 (by decide) ?_
        refine lv_goto (tgt := 1162) hx hb dL_law_1158 rfl ?_
        exact lab1162 l9 l10 l11 l12 l16 (1 : Int32) w _ _ (by omega) (by omega) _ _ _ (lv_sub hl [0, 1, 2, 3, 4, 5, 6, 7, 8, 9, 10, 11] rfl) S h
      have lab1071 : ∀ (l9 : Int32) (l10 : Int32) (l11 : Int32) (l12 : Int32) (l15 : Int32) (l16 : Int32) (l17 : Int32) (w : Wt) (cl sl : Nat) (hc : cl + (1484 + (n139 * 1572)) ≤ 81604) (hs : sl + 6 * (1484 + (n139 * 1572)) ≤ 489624) (H : Heap) (locs : List Loc) (ls : Array Slot), lv_has ls 22 [(0, .ref bb), (1, .ref (q 0)), (2, .ref (q 72)), (3, .ref (q 73)), (4, .ref (q 74)), (5, .ref (q 75)), (6, .ref (q 76)), (9, .int l9), (10, .int l10), (11, .int l11), (12, .int l12), (15, .int l15), (16, .int l16), (17, .int l17)] → Sta KL D dA q A s.heap w H locs → Option.bind (l_law_b1071 xs L l9 l10 l11 l12 l15 l16 l17 w) (seqF (fun s9 => Option.bind (lp (l_law_L139 xs L) n139 s9) (fun x9 => Option.bind (l_law_x139 xs L x9) some)) (fun x9 => Option.bind (l_law_x139 xs L x9) some)) = some z → W p l e R s m args below meth c H locs cl sl Q (F0 m 1071 ls []) := by
        intro l9 l10 l11 l12 l15 l16 l17 w cl sl hc hs H locs ls hl S h
        unfold l_law_b1071 at h
        refine lv_iload hx hb dL_law_1071 (lv_at hl 11 rfl) ?_
        refine lv_bipush (v := 12) hx hb dL_law_1073 (by decide) ?_
        refine lv_icmp_ne (tgt := 1167) hx hb dL_law_1075 rfl (fun c80 => ?_) (fun c80 => ?_)
        · have h := h_f c80 h
          refine lv_iload hx hb dL_law_1167 (lv_at hl 11 rfl) ?_
          refine lv_bipush (v := 13) hx hb dL_law_1169 (by decide) ?_
          refine lv_icmp_ne (tgt := 1296) hx hb dL_law_1171 rfl (fun c81 => ?_) (fun c81 => ?_)
          · have h := h_f c81 h
            refine lv_iload hx hb dL_law_1296 (lv_at hl 11 rfl) ?_
            refine lv_bipush (v := 14) hx hb dL_law_1298 (by decide) ?_
            refine lv_icmp_ne (tgt := 1369) hx hb dL_law_1300 rfl (fun c82 => ?_) (fun c82 => ?_)
            · have h := h_f c82 h
              refine lv_iconst (v := 0) hx hb dL_law_1369 (by decide) ?_
              refine lv_istore (lv' := [(18, .int (0 : Int32)), (0, .ref bb), (1, .ref (q 0)), (2, .ref (q 72)), (3, .ref (q 73)), (4, .ref (q 74)), (5, .ref (q 75)), (6, .ref (q 76)), (9, .int l9), (10, .int l10), (11, .int l11), (12, .int l12), (15, .int l15), (16, .int l16), (17, .int l17)]) hx hb dL_law_1370 hl (Nat.le_of_ble_eq_true rfl) rfl (fun ls hl => ?_)
              exact loop1372 l9 l10 l11 l12 l16 l17 13 (0 : Int32) w _ _ (by omega) (by omega) _ _ _ (lv_sub hl [1, 2, 3, 4, 5, 6, 7, 8, 9, 10, 11, 13, 14, 0] rfl) S (h_bb h)
            · have h := h_t c82 h
              refine lv_aload_n hx hb dL_law_1303 rfl (lv_at hl 2 rfl) ?_
              refine lv_iload hx hb dL_law_1304 (lv_at hl 13 rfl) ?_
              obtain ⟨x83, ex83, h⟩ := h_c h
              refine kb_i C S (q_S (rest := []) (As := [.ref (q 72), .int l17]) lk_RL_151 ev hx hb hml C S (c_l_lays l D dA q l17 w x83.2 x83.1 ex83 _) rfl rfl ⟨Nat.le_trans (Nat.le_of_ble_eq_true rfl) hRf, Nat.le_trans (Nat.le_of_ble_eq_true rfl) hRl⟩ rfl hl.1 rfl (Nat.le_of_ble_eq_true rfl) dL_law_1306 ⟨by omega, by omega⟩) (fun w84 ew84 H locs S => ?_)
              have h := h_l h w84 ew84
              refine lv_topi (fun v85 ev85 => ?_)
              have h := h_l h v85 ev85
              refine lv_istore (lv' := [(18, .int v85), (0, .ref bb), (1, .ref (q 0)), (2, .ref (q 72)), (3, .ref (q 73)), (4, .ref (q 74)), (5, .ref (q 75)), (6, .ref (q 76)), (9, .int l9), (10, .int l10), (11, .int l11), (12, .int l12), (15, .int l15), (16, .int l16), (17, .int l17)]) hx hb dL_law_1309 hl (Nat.le_of_ble_eq_true rfl) rfl (fun ls hl => ?_)
              refine lv_aload_n hx hb dL_law_1311 rfl (lv_at hl 2 rfl) ?_
              refine lv_aload_n hx hb dL_law_1312 rfl (lv_at hl 3 rfl) ?_
              refine lv_iload hx hb dL_law_1313 (lv_at hl 0 rfl) ?_
              obtain ⟨x86, ex86, h⟩ := h_c h
              refine kb_i C S (q_S (rest := []) (As := [.ref (q 0), .ref (q 72), .int v85]) lk_RL_111 ev hx hb hml C S (c_l_types l hfl D dA q v85 w84 x86.2 x86.1 ex86 _) rfl rfl ⟨Nat.le_trans (Nat.le_of_ble_eq_true rfl) hRf, Nat.le_trans (Nat.le_of_ble_eq_true rfl) hRl⟩ rfl hl.1 rfl (Nat.le_of_ble_eq_true rfl) dL_law_1315 ⟨by omega, by omega⟩) (fun w87 ew87 H locs S => ?_)
              have h := h_l h w87 ew87
              refine lv_if_eq (tgt := 1332) hx hb dL_law_1318 rfl (fun c88 => ?_) (fun c88 => ?_)
              · have h := h_t c88 h
                refine lv_bipush (v := -99) hx hb dL_law_1332 (by decide) ?_
                exact lab1334 l9 l10 l11 l12 l16 l17 (-99 : Int32) w87 _ _ (by omega) (by omega) _ _ _ (lv_sub hl [1, 2, 3, 4, 5, 6, 7, 8, 9, 10, 11, 13, 14] rfl) S h
              · have h := h_f c88 h
                refine lv_aload_n hx hb dL_law_1321 rfl (lv_at hl 2 rfl) ?_
                refine lv_iload hx hb dL_law_1322 (lv_at hl 14 rfl) ?_
                refine lv_iconst (v := 3) hx hb dL_law_1324 (by decide) ?_
                obtain ⟨g89, h⟩ := h_gd h
                refine lv_irem hx hb dL_law_1325 (nz_of g89) ?_
                obtain ⟨x90, ex90, h⟩ := h_c h
                refine kl_i C S (w_S (rest := []) (As := [.ref (q 0), .int (l17 - l17 / (3 : Int32) * (3 : Int32))]) lw_118 hx hb hml C S (c_l_mend l hfl D dA q (l17 - l17 / (3 : Int32) * (3 : Int32)) w87 x90.2 x90.1 ex90) ⟨Nat.le_trans (Nat.le_of_ble_eq_true rfl) hRf, Nat.le_trans (Nat.le_of_ble_eq_true rfl) hRl⟩ rfl hl.1 rfl (Nat.le_of_ble_eq_true rfl) dL_law_1326 ⟨by omega, by omega⟩) (fun w91 ew91 H locs S => ?_)
                have h := h_l h w91 ew91
                refine lv_goto (tgt := 1334) hx hb dL_law_1329 rfl ?_
                exact lab1334 l9 l10 l11 l12 l16 l17 x90.1 w91 _ _ (by omega) (by omega) _ _ _ (lv_sub hl [1, 2, 3, 4, 5, 6, 7, 8, 9, 10, 11, 13, 14] rfl) S h
          · have h := h_t c81 h
            refine lv_aload_n hx hb dL_law_1174 rfl (lv_at hl 1 rfl) ?_
            refine lv_iload hx hb dL_law_1175 (lv_at hl 12 rfl) ?_
            obtain ⟨x92, ex92, h⟩ := h_c h
            refine kl_i C S (w_S (rest := []) (As := [.ref (q 0), .int l16]) lw_182 hx hb hml C S (c_l_recount l hfl D dA q l16 w x92.2 x92.1 ex92) ⟨Nat.le_trans (Nat.le_of_ble_eq_true rfl) hRf, Nat.le_trans (Nat.le_of_ble_eq_true rfl) hRl⟩ rfl hl.1 rfl (Nat.le_of_ble_eq_true rfl) dL_law_1177 ⟨by omega, by omega⟩) (fun w93 ew93 H locs S => ?_)
            have h := h_l h w93 ew93
            refine lv_if_lt (tgt := 1196) hx hb dL_law_1180 rfl (fun c94 => ?_) (fun c94 => ?_)
            · have h := h_t c94 h
              exact lab1196 l9 l10 l11 l12 l16 w93 _ _ (by omega) (by omega) _ _ _ (lv_sub hl [0, 1, 2, 3, 4, 5, 6, 7, 8, 9, 10, 12] rfl) S h
            · have h := h_f c94 h
              refine lv_aload_n hx hb dL_law_1183 rfl (lv_at hl 1 rfl) ?_
              refine lv_iload hx hb dL_law_1184 (lv_at hl 12 rfl) ?_
              obtain ⟨x95, ex95, h⟩ := h_c h
              refine kl_i C S (w_S (rest := []) (As := [.ref (q 0), .int l16]) lw_182 hx hb hml C S (c_l_recount l hfl D dA q l16 w93 x95.2 x95.1 ex95) ⟨Nat.le_trans (Nat.le_of_ble_eq_true rfl) hRf, Nat.le_trans (Nat.le_of_ble_eq_true rfl) hRl⟩ rfl hl.1 rfl (Nat.le_of_ble_eq_true rfl) dL_law_1186 ⟨by omega, by omega⟩) (fun w96 ew96 H locs S => ?_)
              have h := h_l h w96 ew96
              refine lv_if_ne (tgt := 1196) hx hb dL_law_1189 rfl (fun c97 => ?_) (fun c97 => ?_)
              · have h := h_f c97 h
                exact lab1196 l9 l10 l11 l12 l16 w96 _ _ (by omega) (by omega) _ _ _ (lv_sub hl [0, 1, 2, 3, 4, 5, 6, 7, 8, 9, 10, 12] rfl) S h
              · have h := h_t c97 h
                refine lv_iconst (v := 1) hx hb dL_law_1192 (by decide) ?_
                refine lv_goto (tgt := 1197) hx hb dL_law_1193 rfl ?_
                exact lab1197 l9 l10 l11 l12 l16 (1 : Int32) w96 _ _ (by omega) (by omega) _ _ _ (lv_sub hl [0, 1, 2, 3, 4, 5, 6, 7, 8, 9, 10, 12] rfl) S h
        · have h := h_t c80 h
          refine lv_aload_n hx hb dL_law_1078 rfl (lv_at hl 1 rfl) ?_
          refine lv_iload hx hb dL_law_1079 (lv_at hl 12 rfl) ?_
          refine lv_iload hx hb dL_law_1081 (lv_at hl 13 rfl) ?_
          refine lv_sipush (v := 10000) hx hb dL_law_1083 (by decide) ?_
          obtain ⟨g98, h⟩ := h_gd h
          refine lv_irem hx hb dL_law_1086 (nz_of g98) ?_
          refine lv_iconst (v := 1) hx hb dL_law_1087 (by decide) ?_
          refine lv_iload hx hb dL_law_1088 (lv_at hl 13 rfl) ?_
          refine lv_sipush (v := 10000) hx hb dL_law_1090 (by decide) ?_
          obtain ⟨g99, h⟩ := h_gd h
          refine lv_idiv hx hb dL_law_1093 (nz_of g99) ?_
          refine lv_bipush (v := 20) hx hb dL_law_1094 (by decide) ?_
          obtain ⟨g100, h⟩ := h_gd h
          refine lv_irem hx hb dL_law_1096 (nz_of g100) ?_
          refine lv_iadd hx hb dL_law_1097 ?_
          obtain ⟨x101, ex101, h⟩ := h_c h
          refine kl_i C S (w_S (rest := []) (As := [.ref (q 0), .int l16, .int (l17 - l17 / (10000 : Int32) * (10000 : Int32)), .int ((1 : Int32) + ((l17 / (10000 : Int32)) - (l17 / (10000 : Int32)) / (20 : Int32) * (20 : Int32)))]) lw_180 hx hb hml C S (c_l_sample l hfl D dA q l16 (l17 - l17 / (10000 : Int32) * (10000 : Int32)) ((1 : Int32) + ((l17 / (10000 : Int32)) - (l17 / (10000 : Int32)) / (20 : Int32) * (20 : Int32))) w x101.2 x101.1 ex101) ⟨Nat.le_trans (Nat.le_of_ble_eq_true rfl) hRf, Nat.le_trans (Nat.le_of_ble_eq_true rfl) hRl⟩ rfl hl.1 rfl (Nat.le_of_ble_eq_true rfl) dL_law_1098 ⟨by omega, by omega⟩) (fun w102 ew102 H locs S => ?_)
          have h := h_l h w102 ew102
          refine lv_topi (fun v103 ev103 => ?_)
          have h := h_l h v103 ev103
          refine lv_istore (lv' := [(18, .int v103), (0, .ref bb), (1, .ref (q 0)), (2, .ref (q 72)), (3, .ref (q 73)), (4, .ref (q 74)), (5, .ref (q 75)), (6, .ref (q 76)), (9, .int l9), (10, .int l10), (11, .int l11), (12, .int l12), (15, .int l15), (16, .int l16), (17, .int l17)]) hx hb dL_law_1101 hl (Nat.le_of_ble_eq_true rfl) rfl (fun ls hl => ?_)
          refine lv_iload hx hb dL_law_1103 (lv_at hl 0 rfl) ?_
          refine lv_bipush (v := -103) hx hb dL_law_1105 (by decide) ?_
          refine lv_icmp_eq (tgt := 1157) hx hb dL_law_1107 rfl (fun c104 => ?_) (fun c104 => ?_)
          · have h := h_t c104 h
            exact lab1157 l9 l10 l11 l12 l16 w102 _ _ (by omega) (by omega) _ _ _ (lv_sub hl [1, 2, 3, 4, 5, 6, 7, 8, 9, 10, 11, 13] rfl) S h
          · have h := h_f c104 h
            refine lv_iload hx hb dL_law_1110 (lv_at hl 0 rfl) ?_
            refine lv_if_lt (tgt := 1161) hx hb dL_law_1112 rfl (fun c105 => ?_) (fun c105 => ?_)
            · have h := h_t c105 h
              exact lab1161 l9 l10 l11 l12 l16 w102 _ _ (by omega) (by omega) _ _ _ (lv_sub hl [1, 2, 3, 4, 5, 6, 7, 8, 9, 10, 11, 13] rfl) S h
            · have h := h_f c105 h
              refine lv_iload hx hb dL_law_1115 (lv_at hl 0 rfl) ?_
              refine lv_iconst (v := 1) hx hb dL_law_1117 (by decide) ?_
              refine lv_iload hx hb dL_law_1118 (lv_at hl 14 rfl) ?_
              refine lv_sipush (v := 10000) hx hb dL_law_1120 (by decide) ?_
              obtain ⟨g106, h⟩ := h_gd h
              refine lv_idiv hx hb dL_law_1123 (nz_of g106) ?_
              refine lv_bipush (v := 20) hx hb dL_law_1124 (by decide) ?_
              obtain ⟨g107, h⟩ := h_gd h
              refine lv_irem hx hb dL_law_1126 (nz_of g107) ?_
              refine lv_iadd hx hb dL_law_1127 ?_
              refine lv_icmp_gt (tgt := 1161) hx hb dL_law_1128 rfl (fun c108 => ?_) (fun c108 => ?_)
              · have h := h_t c108 h
                exact lab1161 l9 l10 l11 l12 l16 w102 _ _ (by omega) (by omega) _ _ _ (lv_sub hl [1, 2, 3, 4, 5, 6, 7, 8, 9, 10, 11, 13] rfl) S h
              · have h := h_f c108 h
                refine lv_aload_n hx hb dL_law_1131 rfl (lv_at hl 2 rfl) ?_
                refine lv_iload hx hb dL_law_1132 (lv_at hl 13 rfl) ?_
                refine lv_iload hx hb dL_law_1134 (lv_at hl 14 rfl) ?_
                refine lv_sipush (v := 10000) hx hb dL_law_1136 (by decide) ?_
                obtain ⟨g109, h⟩ := h_gd h
                refine lv_irem hx hb dL_law_1139 (nz_of g109) ?_
                refine lv_iconst (v := 1) hx hb dL_law_1140 (by decide) ?_
                refine lv_iload hx hb dL_law_1141 (lv_at hl 14 rfl) ?_
                refine lv_sipush (v := 10000) hx hb dL_law_1143 (by decide) ?_
                obtain ⟨g110, h⟩ := h_gd h
                refine lv_idiv hx hb dL_law_1146 (nz_of g110) ?_
                refine lv_bipush (v := 20) hx hb dL_law_1147 (by decide) ?_
                obtain ⟨g111, h⟩ := h_gd h
                refine lv_irem hx hb dL_law_1149 (nz_of g111) ?_
                refine lv_iadd hx hb dL_law_1150 ?_
                obtain ⟨x112, ex112, h⟩ := h_c h
                refine kl_i C S (w_S (rest := []) (As := [.ref (q 0), .int l16, .int (l17 - l17 / (10000 : Int32) * (10000 : Int32)), .int ((1 : Int32) + ((l17 / (10000 : Int32)) - (l17 / (10000 : Int32)) / (20 : Int32) * (20 : Int32)))]) lw_180 hx hb hml C S (c_l_sample l hfl D dA q l16 (l17 - l17 / (10000 : Int32) * (10000 : Int32)) ((1 : Int32) + ((l17 / (10000 : Int32)) - (l17 / (10000 : Int32)) / (20 : Int32) * (20 : Int32))) w102 x112.2 x112.1 ex112) ⟨Nat.le_trans (Nat.le_of_ble_eq_true rfl) hRf, Nat.le_trans (Nat.le_of_ble_eq_true rfl) hRl⟩ rfl hl.1 rfl (Nat.le_of_ble_eq_true rfl) dL_law_1151 ⟨by omega, by omega⟩) (fun w113 ew113 H locs S => ?_)
                have h := h_l h w113 ew113
                refine lv_if_ne (tgt := 1161) hx hb dL_law_1154 rfl (fun c114 => ?_) (fun c114 => ?_)
                · have h := h_f c114 h
                  exact lab1161 l9 l10 l11 l12 l16 w113 _ _ (by omega) (by omega) _ _ _ (lv_sub hl [1, 2, 3, 4, 5, 6, 7, 8, 9, 10, 11, 13] rfl) S h
                · have h := h_t c114 h
                  exact lab1157 l9 l10 l11 l12 l16 w113 _ _ (by omega) (by omega) _ _ _ (lv_sub hl [1, 2, 3, 4, 5, 6, 7, 8, 9, 10, 11, 13] rfl) S h
      have lab1066 : ∀ (l9 : Int32) (l10 : Int32) (l11 : Int32) (l12 : Int32) (l16 : Int32) (t0 : Int32) (w : Wt) (cl sl : Nat) (hc : cl + (1176 + (n139 * 1572)) ≤ 81604) (hs : sl + 6 * (1176 + (n139 * 1572)) ≤ 489624) (H : Heap) (locs : List Loc) (ls : Array Slot), lv_has ls 22 [(0, .ref bb), (1, .ref (q 0)), (2, .ref (q 72)), (3, .ref (q 73)), (4, .ref (q 74)), (5, .ref (q 75)), (6, .ref (q 76)), (9, .int l9), (10, .int l10), (11, .int l11), (12, .int l12), (16, .int l16)] → Sta KL D dA q A s.heap w H locs → Option.bind (l_law_b1066 xs L l9 l10 l11 l12 l16 t0 w) (seqF (fun s9 => Option.bind (lp (l_law_L139 xs L) n139 s9) (fun x9 => Option.bind (l_law_x139 xs L x9) some)) (fun x9 => Option.bind (l_law_x139 xs L x9) some)) = some z → W p l e R s m args below meth c H locs cl sl Q (F0 m 1066 ls [.int t0]) := by
        intro l9 l10 l11 l12 l16 t0 w cl sl hc hs H locs ls hl S h
        unfold l_law_b1066 at h
        refine lv_istore (lv' := [(7, .int t0), (0, .ref bb), (1, .ref (q 0)), (2, .ref (q 72)), (3, .ref (q 73)), (4, .ref (q 74)), (5, .ref (q 75)), (6, .ref (q 76)), (9, .int l9), (10, .int l10), (11, .int l11), (12, .int l12), (16, .int l16)]) hx hb dL_law_1066 hl (Nat.le_of_ble_eq_true rfl) rfl (fun ls hl => ?_)
        refine lv_goto (tgt := 1428) hx hb dL_law_1068 rfl ?_
        exact lab1428 t0 l9 l10 l11 l12 l16 w _ _ (by omega) (by omega) _ _ _ (lv_sub hl [1, 2, 3, 4, 5, 6, 7, 0, 8, 9, 10, 11, 12] rfl) S h
      have lab1050 : ∀ (l9 : Int32) (l10 : Int32) (l11 : Int32) (l12 : Int32) (l16 : Int32) (w : Wt) (cl sl : Nat) (hc : cl + (1176 + (n139 * 1572)) ≤ 81604) (hs : sl + 6 * (1176 + (n139 * 1572)) ≤ 489624) (H : Heap) (locs : List Loc) (ls : Array Slot), lv_has ls 22 [(0, .ref bb), (1, .ref (q 0)), (2, .ref (q 72)), (3, .ref (q 73)), (4, .ref (q 74)), (5, .ref (q 75)), (6, .ref (q 76)), (9, .int l9), (10, .int l10), (11, .int l11), (12, .int l12), (16, .int l16)] → Sta KL D dA q A s.heap w H locs → Option.bind (l_law_b1050 xs L l9 l10 l11 l12 l16 w) (seqF (fun s9 => Option.bind (lp (l_law_L139 xs L) n139 s9) (fun x9 => Option.bind (l_law_x139 xs L x9) some)) (fun x9 => Option.bind (l_law_x139 xs L x9) some)) = some z → W p l e R s m args below meth c H locs cl sl Q (F0 m 1050 ls []) := by
        intro l9 l10 l11 l12 l16 w cl sl hc hs H locs ls hl S h
        unfold l_law_b1050 at h
        refine lv_iconst (v := 0) hx hb dL_law_1050 (by decide) ?_
        refine lv_goto (tgt := 1066) hx hb dL_law_1051 rfl ?_
        exact lab1066 l9 l10 l11 l12 l16 (0 : Int32) w _ _ (by omega) (by omega) _ _ _ (lv_sub hl [0, 1, 2, 3, 4, 5, 6, 7, 8, 9, 10, 11] rfl) S h
      have lab951 : ∀ (l9 : Int32) (l10 : Int32) (l11 : Int32) (l12 : Int32) (l16 : Int32) (t0 : Int32) (w : Wt) (cl sl : Nat) (hc : cl + (1176 + (n139 * 1572)) ≤ 81604) (hs : sl + 6 * (1176 + (n139 * 1572)) ≤ 489624) (H : Heap) (locs : List Loc) (ls : Array Slot), lv_has ls 22 [(0, .ref bb), (1, .ref (q 0)), (2, .ref (q 72)), (3, .ref (q 73)), (4, .ref (q 74)), (5, .ref (q 75)), (6, .ref (q 76)), (9, .int l9), (10, .int l10), (11, .int l11), (12, .int l12), (16, .int l16)] → Sta KL D dA q A s.heap w H locs → Option.bind (l_law_b951 xs L l9 l10 l11 l12 l16 t0 w) (seqF (fun s9 => Option.bind (lp (l_law_L139 xs L) n139 s9) (fun x9 => Option.bind (l_law_x139 xs L x9) some)) (fun x9 => Option.bind (l_law_x139 xs L x9) some)) = some z → W p l e R s m args below meth c H locs cl sl Q (F0 m 951 ls [.int t0]) := by
        intro l9 l10 l11 l12 l16 t0 w cl sl hc hs H locs ls hl S h
        unfold l_law_b951 at h
        refine lv_istore (lv' := [(7, .int t0), (0, .ref bb), (1, .ref (q 0)), (2, .ref (q 72)), (3, .ref (q 73)), (4, .ref (q 74)), (5, .ref (q 75)), (6, .ref (q 76)), (9, .int l9), (10, .int l10), (11, .int l11), (12, .int l12), (16, .int l16)]) hx hb dL_law_951 hl (Nat.le_of_ble_eq_true rfl) rfl (fun ls hl => ?_)
        refine lv_goto (tgt := 1428) hx hb dL_law_953 rfl ?_
        exact lab1428 t0 l9 l10 l11 l12 l16 w _ _ (by omega) (by omega) _ _ _ (lv_sub hl [1, 2, 3, 4, 5, 6, 7, 0, 8, 9, 10, 11, 12] rfl) S h
      have lab916 : ∀ (l9 : Int32) (l10 : Int32) (l11 : Int32) (l12 : Int32) (l16 : Int32) (l18 : Int32) (l19 : Int32) (l20 : Int32) (w : Wt) (cl sl : Nat) (hc : cl + (1176 + (n139 * 1572)) ≤ 81604) (hs : sl + 6 * (1176 + (n139 * 1572)) ≤ 489624) (H : Heap) (locs : List Loc) (ls : Array Slot), lv_has ls 22 [(0, .ref bb), (1, .ref (q 0)), (2, .ref (q 72)), (3, .ref (q 73)), (4, .ref (q 74)), (5, .ref (q 75)), (6, .ref (q 76)), (9, .int l9), (10, .int l10), (11, .int l11), (12, .int l12), (16, .int l16), (18, .int l18), (19, .int l19), (20, .int l20)] → Sta KL D dA q A s.heap w H locs → Option.bind (l_law_b916 xs L l9 l10 l11 l12 l16 l18 l19 l20 w) (seqF (fun s9 => Option.bind (lp (l_law_L139 xs L) n139 s9) (fun x9 => Option.bind (l_law_x139 xs L x9) some)) (fun x9 => Option.bind (l_law_x139 xs L x9) some)) = some z → W p l e R s m args below meth c H locs cl sl Q (F0 m 916 ls []) := by
        intro l9 l10 l11 l12 l16 l18 l19 l20 w cl sl hc hs H locs ls hl S h
        unfold l_law_b916 at h
        refine lv_iload hx hb dL_law_916 (lv_at hl 14 rfl) ?_
        refine lv_if_ge (tgt := 936) hx hb dL_law_918 rfl (fun c115 => ?_) (fun c115 => ?_)
        · have h := h_t c115 h
          refine lv_iload hx hb dL_law_936 (lv_at hl 14 rfl) ?_
          refine lv_iload hx hb dL_law_938 (lv_at hl 12 rfl) ?_
          refine lv_iload hx hb dL_law_940 (lv_at hl 13 rfl) ?_
          refine lv_isub hx hb dL_law_942 ?_
          refine lv_icmp_ne (tgt := 950) hx hb dL_law_943 rfl (fun c116 => ?_) (fun c116 => ?_)
          · have h := h_f c116 h
            refine lv_iconst (v := 0) hx hb dL_law_950 (by decide) ?_
            exact lab951 l9 l10 l11 l12 l16 (0 : Int32) w _ _ (by omega) (by omega) _ _ _ (lv_sub hl [0, 1, 2, 3, 4, 5, 6, 7, 8, 9, 10, 11] rfl) S h
          · have h := h_t c116 h
            refine lv_iconst (v := 1) hx hb dL_law_946 (by decide) ?_
            refine lv_goto (tgt := 951) hx hb dL_law_947 rfl ?_
            exact lab951 l9 l10 l11 l12 l16 (1 : Int32) w _ _ (by omega) (by omega) _ _ _ (lv_sub hl [0, 1, 2, 3, 4, 5, 6, 7, 8, 9, 10, 11] rfl) S h
        · have h := h_f c115 h
          refine lv_iload hx hb dL_law_921 (lv_at hl 12 rfl) ?_
          refine lv_iload hx hb dL_law_923 (lv_at hl 13 rfl) ?_
          refine lv_icmp_ne (tgt := 932) hx hb dL_law_925 rfl (fun c117 => ?_) (fun c117 => ?_)
          · have h := h_f c117 h
            refine lv_iconst (v := 0) hx hb dL_law_932 (by decide) ?_
            refine lv_goto (tgt := 951) hx hb dL_law_933 rfl ?_
            exact lab951 l9 l10 l11 l12 l16 (0 : Int32) w _ _ (by omega) (by omega) _ _ _ (lv_sub hl [0, 1, 2, 3, 4, 5, 6, 7, 8, 9, 10, 11] rfl) S h
          · have h := h_t c117 h
            refine lv_iconst (v := 1) hx hb dL_law_928 (by decide) ?_
            refine lv_goto (tgt := 951) hx hb dL_law_929 rfl ?_
            exact lab951 l9 l10 l11 l12 l16 (1 : Int32) w _ _ (by omega) (by omega) _ _ _ (lv_sub hl [0, 1, 2, 3, 4, 5, 6, 7, 8, 9, 10, 11] rfl) S h
      have loop884 : ∀ (l9 : Int32) (l10 : Int32) (l11 : Int32) (l12 : Int32) (l16 : Int32) (l18 : Int32) (l20 : Int32) (w : Wt) (n884 : Nat), ∀ (l19 : Int32) (l21 : Int32) (cl sl : Nat) (hc : cl + (1176 + (n884 * 4 + n139 * 1572)) ≤ 81604) (hs : sl + 6 * (1176 + (n884 * 4 + n139 * 1572)) ≤ 489624) (H : Heap) (locs : List Loc) (ls : Array Slot), lv_has ls 22 [(0, .ref bb), (1, .ref (q 0)), (2, .ref (q 72)), (3, .ref (q 73)), (4, .ref (q 74)), (5, .ref (q 75)), (6, .ref (q 76)), (9, .int l9), (10, .int l10), (11, .int l11), (12, .int l12), (16, .int l16), (18, .int l18), (19, .int l19), (20, .int l20), (21, .int l21)] → Sta KL D dA q A s.heap w H locs → Option.bind (lp (l_law_L884 xs L l9 l10 l11 l12 l16 l18 l20 w) n884 (l19, l21)) (fun x9 => Option.bind (l_law_x884 xs L l9 l10 l11 l12 l16 l18 l20 w x9) (seqF (fun s9 => Option.bind (lp (l_law_L139 xs L) n139 s9) (fun x9 => Option.bind (l_law_x139 xs L x9) some)) (fun x9 => Option.bind (l_law_x139 xs L x9) some))) = some z → W p l e R s m args below meth c H locs cl sl Q (F0 m 884 ls []) := by
        intro l9 l10 l11 l12 l16 l18 l20 w n884
        induction n884 with
        | zero =>
          intro l19 l21 cl sl hc hs H locs ls hl S h
          exact (h_lp0 h).elim
        | succ n884 ih884 =>
          intro l19 l21 cl sl hc hs H locs ls hl S h
          have h := h_lp h
          unfold l_law_L884 at h
          refine lv_iload hx hb dL_law_884 (lv_at hl 15 rfl) ?_
          refine lv_iload hx hb dL_law_886 (lv_at hl 8 rfl) ?_
          refine lv_icmp_ge (tgt := 916) hx hb dL_law_888 rfl (fun c118 => ?_) (fun c118 => ?_)
          · have h := h_t c118 h
            exact lab916 l9 l10 l11 l12 l16 l18 l19 l20 w _ _ (by omega) (by omega) _ _ _ (lv_sub hl [0, 1, 2, 3, 4, 5, 6, 7, 8, 9, 10, 11, 12, 13, 14] rfl) S h
          · have h := h_f c118 h
            refine lv_iload hx hb dL_law_891 (lv_at hl 13 rfl) ?_
            refine lv_aload_n hx hb dL_law_893 rfl (lv_at hl 1 rfl) ?_
            refine lv_iload hx hb dL_law_894 (lv_at hl 15 rfl) ?_
            obtain ⟨x119, ex119, h⟩ := h_c h
            refine kl_i0 C S (w_S (rest := [.int l19]) (As := [.ref (q 0), .int l21]) lw_170 hx hb hml C S (c_l_why l hfl D dA q l21 w x119 ex119) ⟨Nat.le_trans (Nat.le_of_ble_eq_true rfl) hRf, Nat.le_trans (Nat.le_of_ble_eq_true rfl) hRl⟩ rfl hl.1 rfl (Nat.le_of_ble_eq_true rfl) dL_law_896 ⟨by omega, by omega⟩) (fun H locs S => ?_)
            refine lv_if_ne (tgt := 906) hx hb dL_law_899 rfl (fun c120 => ?_) (fun c120 => ?_)
            · have h := h_f c120 h
              refine lv_iconst (v := 0) hx hb dL_law_906 (by decide) ?_
              refine lv_iadd hx hb dL_law_907 ?_
              refine lv_topi (fun v121 ev121 => ?_)
              have h := h_l h v121 ev121
              refine lv_istore (lv' := [(19, .int v121), (0, .ref bb), (1, .ref (q 0)), (2, .ref (q 72)), (3, .ref (q 73)), (4, .ref (q 74)), (5, .ref (q 75)), (6, .ref (q 76)), (9, .int l9), (10, .int l10), (11, .int l11), (12, .int l12), (16, .int l16), (18, .int l18), (20, .int l20), (21, .int l21)]) hx hb dL_law_908 hl (Nat.le_of_ble_eq_true rfl) rfl (fun ls hl => ?_)
              refine lv_iinc (v := (l21 + 1)) (lv' := [(21, .int (l21 + 1)), (19, .int v121), (0, .ref bb), (1, .ref (q 0)), (2, .ref (q 72)), (3, .ref (q 73)), (4, .ref (q 74)), (5, .ref (q 75)), (6, .ref (q 76)), (9, .int l9), (10, .int l10), (11, .int l11), (12, .int l12), (16, .int l16), (18, .int l18), (20, .int l20)]) hx hb dL_law_910 hl (k := 15) rfl rfl (Nat.le_of_ble_eq_true rfl) rfl (fun ls hl => ?_)
              refine lv_goto (tgt := 884) hx hb dL_law_913 rfl ?_
              exact ih884 v121 (l21 + 1) _ _ (by omega) (by omega) _ _ _ (lv_sub hl [2, 3, 4, 5, 6, 7, 8, 9, 10, 11, 12, 13, 14, 1, 15, 0] rfl) S h
            · have h := h_t c120 h
              refine lv_iconst (v := 1) hx hb dL_law_902 (by decide) ?_
              refine lv_goto (tgt := 907) hx hb dL_law_903 rfl ?_
              refine lv_iadd hx hb dL_law_907 ?_
              refine lv_topi (fun v122 ev122 => ?_)
              have h := h_l h v122 ev122
              refine lv_istore (lv' := [(19, .int v122), (0, .ref bb), (1, .ref (q 0)), (2, .ref (q 72)), (3, .ref (q 73)), (4, .ref (q 74)), (5, .ref (q 75)), (6, .ref (q 76)), (9, .int l9), (10, .int l10), (11, .int l11), (12, .int l12), (16, .int l16), (18, .int l18), (20, .int l20), (21, .int l21)]) hx hb dL_law_908 hl (Nat.le_of_ble_eq_true rfl) rfl (fun ls hl => ?_)
              refine lv_iinc (v := (l21 + 1)) (lv' := [(21, .int (l21 + 1)), (19, .int v122), (0, .ref bb), (1, .ref (q 0)), (2, .ref (q 72)), (3, .ref (q 73)), (4, .ref (q 74)), (5, .ref (q 75)), (6, .ref (q 76)), (9, .int l9), (10, .int l10), (11, .int l11), (12, .int l12), (16, .int l16), (18, .int l18), (20, .int l20)]) hx hb dL_law_910 hl (k := 15) rfl rfl (Nat.le_of_ble_eq_true rfl) rfl (fun ls hl => ?_)
              refine lv_goto (tgt := 884) hx hb dL_law_913 rfl ?_
              exact ih884 v122 (l21 + 1) _ _ (by omega) (by omega) _ _ _ (lv_sub hl [2, 3, 4, 5, 6, 7, 8, 9, 10, 11, 12, 13, 14, 1, 15, 0] rfl) S h
      have lab876 : ∀ (l9 : Int32) (l10 : Int32) (l11 : Int32) (l12 : Int32) (l16 : Int32) (l18 : Int32) (l19 : Int32) (t0 : Int32) (w : Wt) (cl sl : Nat) (hc : cl + (1376 + (n139 * 1572)) ≤ 81604) (hs : sl + 6 * (1376 + (n139 * 1572)) ≤ 489624) (H : Heap) (locs : List Loc) (ls : Array Slot), lv_has ls 22 [(0, .ref bb), (1, .ref (q 0)), (2, .ref (q 72)), (3, .ref (q 73)), (4, .ref (q 74)), (5, .ref (q 75)), (6, .ref (q 76)), (9, .int l9), (10, .int l10), (11, .int l11), (12, .int l12), (16, .int l16), (18, .int l18), (19, .int l19)] → Sta KL D dA q A s.heap w H locs → Option.bind (l_law_b876 xs L l9 l10 l11 l12 l16 l18 l19 t0 w) (seqF (fun s9 => Option.bind (lp (l_law_L139 xs L) n139 s9) (fun x9 => Option.bind (l_law_x139 xs L x9) some)) (fun x9 => Option.bind (l_law_x139 xs L x9) some)) = some z → W p l e R s m args below meth c H locs cl sl Q (F0 m 876 ls [.int t0, .ref (q 0)]) := by
        intro l9 l10 l11 l12 l16 l18 l19 t0 w cl sl hc hs H locs ls hl S h
        unfold l_law_b876 at h
        obtain ⟨x123, ex123, h⟩ := h_c h
        refine kl_i C S (w_S (rest := []) (As := [.ref (q 0), .int t0]) lw_176 hx hb hml C S (c_l_strike l hfl D dA q t0 w x123.2 x123.1 ex123) ⟨Nat.le_trans (Nat.le_of_ble_eq_true rfl) hRf, Nat.le_trans (Nat.le_of_ble_eq_true rfl) hRl⟩ rfl hl.1 rfl (Nat.le_of_ble_eq_true rfl) dL_law_876 ⟨by omega, by omega⟩) (fun w124 ew124 H locs S => ?_)
        have h := h_l h w124 ew124
        refine lv_topi (fun v125 ev125 => ?_)
        have h := h_l h v125 ev125
        refine lv_istore (lv' := [(20, .int v125), (0, .ref bb), (1, .ref (q 0)), (2, .ref (q 72)), (3, .ref (q 73)), (4, .ref (q 74)), (5, .ref (q 75)), (6, .ref (q 76)), (9, .int l9), (10, .int l10), (11, .int l11), (12, .int l12), (16, .int l16), (18, .int l18), (19, .int l19)]) hx hb dL_law_879 hl (Nat.le_of_ble_eq_true rfl) rfl (fun ls hl => ?_)
        refine lv_iconst (v := 0) hx hb dL_law_881 (by decide) ?_
        refine lv_istore (lv' := [(21, .int (0 : Int32)), (20, .int v125), (0, .ref bb), (1, .ref (q 0)), (2, .ref (q 72)), (3, .ref (q 73)), (4, .ref (q 74)), (5, .ref (q 75)), (6, .ref (q 76)), (9, .int l9), (10, .int l10), (11, .int l11), (12, .int l12), (16, .int l16), (18, .int l18), (19, .int l19)]) hx hb dL_law_882 hl (Nat.le_of_ble_eq_true rfl) rfl (fun ls hl => ?_)
        exact loop884 l9 l10 l11 l12 l16 l18 v125 w124 49 l19 (0 : Int32) _ _ (by omega) (by omega) _ _ _ (lv_sub hl [2, 3, 4, 5, 6, 7, 8, 9, 10, 11, 12, 13, 14, 15, 1, 0] rfl) S (h_bb h)
      have lab861 : ∀ (l9 : Int32) (l10 : Int32) (l11 : Int32) (l12 : Int32) (l16 : Int32) (l17 : Int32) (l18 : Int32) (l19 : Int32) (w : Wt) (cl sl : Nat) (hc : cl + (1376 + (n139 * 1572)) ≤ 81604) (hs : sl + 6 * (1376 + (n139 * 1572)) ≤ 489624) (H : Heap) (locs : List Loc) (ls : Array Slot), lv_has ls 22 [(0, .ref bb), (1, .ref (q 0)), (2, .ref (q 72)), (3, .ref (q 73)), (4, .ref (q 74)), (5, .ref (q 75)), (6, .ref (q 76)), (9, .int l9), (10, .int l10), (11, .int l11), (12, .int l12), (16, .int l16), (17, .int l17), (18, .int l18), (19, .int l19)] → Sta KL D dA q A s.heap w H locs → Option.bind (l_law_b861 xs L l9 l10 l11 l12 l16 l17 l18 l19 w) (seqF (fun s9 => Option.bind (lp (l_law_L139 xs L) n139 s9) (fun x9 => Option.bind (l_law_x139 xs L x9) some)) (fun x9 => Option.bind (l_law_x139 xs L x9) some)) = some z → W p l e R s m args below meth c H locs cl sl Q (F0 m 861 ls []) := by
        intro l9 l10 l11 l12 l16 l17 l18 l19 w cl sl hc hs H locs ls hl S h
        unfold l_law_b861 at h
        refine lv_aload_n hx hb dL_law_861 rfl (lv_at hl 1 rfl) ?_
        refine lv_iload hx hb dL_law_862 (lv_at hl 9 rfl) ?_
        refine lv_if_ne (tgt := 871) hx hb dL_law_864 rfl (fun c126 => ?_) (fun c126 => ?_)
        · have h := h_f c126 h
          refine lv_iload hx hb dL_law_871 (lv_at hl 12 rfl) ?_
          refine lv_iload hx hb dL_law_873 (lv_at hl 9 rfl) ?_
          obtain ⟨g127, h⟩ := h_gd h
          refine lv_irem hx hb dL_law_875 (nz_of g127) ?_
          exact lab876 l9 l10 l11 l12 l16 l18 l19 (l17 - l17 / l11 * l11) w _ _ (by omega) (by omega) _ _ _ (lv_sub hl [0, 1, 2, 3, 4, 5, 6, 7, 8, 9, 10, 11, 13, 14] rfl) S h
        · have h := h_t c126 h
          refine lv_iconst (v := 0) hx hb dL_law_867 (by decide) ?_
          refine lv_goto (tgt := 876) hx hb dL_law_868 rfl ?_
          exact lab876 l9 l10 l11 l12 l16 l18 l19 (0 : Int32) w _ _ (by omega) (by omega) _ _ _ (lv_sub hl [0, 1, 2, 3, 4, 5, 6, 7, 8, 9, 10, 11, 13, 14] rfl) S h
      have loop829 : ∀ (l9 : Int32) (l10 : Int32) (l11 : Int32) (l12 : Int32) (l16 : Int32) (l17 : Int32) (l19 : Int32) (w : Wt) (n829 : Nat), ∀ (l18 : Int32) (l20 : Int32) (cl sl : Nat) (hc : cl + (1376 + (n829 * 4 + n139 * 1572)) ≤ 81604) (hs : sl + 6 * (1376 + (n829 * 4 + n139 * 1572)) ≤ 489624) (H : Heap) (locs : List Loc) (ls : Array Slot), lv_has ls 22 [(0, .ref bb), (1, .ref (q 0)), (2, .ref (q 72)), (3, .ref (q 73)), (4, .ref (q 74)), (5, .ref (q 75)), (6, .ref (q 76)), (9, .int l9), (10, .int l10), (11, .int l11), (12, .int l12), (16, .int l16), (17, .int l17), (18, .int l18), (19, .int l19), (20, .int l20)] → Sta KL D dA q A s.heap w H locs → Option.bind (lp (l_law_L829 xs L l9 l10 l11 l12 l16 l17 l19 w) n829 (l18, l20)) (fun x9 => Option.bind (l_law_x829 xs L l9 l10 l11 l12 l16 l17 l19 w x9) (seqF (fun s9 => Option.bind (lp (l_law_L139 xs L) n139 s9) (fun x9 => Option.bind (l_law_x139 xs L x9) some)) (fun x9 => Option.bind (l_law_x139 xs L x9) some))) = some z → W p l e R s m args below meth c H locs cl sl Q (F0 m 829 ls []) := by
        intro l9 l10 l11 l12 l16 l17 l19 w n829
        induction n829 with
        | zero =>
          intro l18 l20 cl sl hc hs H locs ls hl S h
          exact (h_lp0 h).elim
        | succ n829 ih829 =>
          intro l18 l20 cl sl hc hs H locs ls hl S h
          have h := h_lp h
          unfold l_law_L829 at h
          refine lv_iload hx hb dL_law_829 (lv_at hl 15 rfl) ?_
          refine lv_iload hx hb dL_law_831 (lv_at hl 8 rfl) ?_
          refine lv_icmp_ge (tgt := 861) hx hb dL_law_833 rfl (fun c128 => ?_) (fun c128 => ?_)
          · have h := h_t c128 h
            exact lab861 l9 l10 l11 l12 l16 l17 l18 l19 w _ _ (by omega) (by omega) _ _ _ (lv_sub hl [0, 1, 2, 3, 4, 5, 6, 7, 8, 9, 10, 11, 12, 13, 14] rfl) S h
          · have h := h_f c128 h
            refine lv_iload hx hb dL_law_836 (lv_at hl 13 rfl) ?_
            refine lv_aload_n hx hb dL_law_838 rfl (lv_at hl 1 rfl) ?_
            refine lv_iload hx hb dL_law_839 (lv_at hl 15 rfl) ?_
            obtain ⟨x129, ex129, h⟩ := h_c h
            refine kl_i0 C S (w_S (rest := [.int l18]) (As := [.ref (q 0), .int l20]) lw_170 hx hb hml C S (c_l_why l hfl D dA q l20 w x129 ex129) ⟨Nat.le_trans (Nat.le_of_ble_eq_true rfl) hRf, Nat.le_trans (Nat.le_of_ble_eq_true rfl) hRl⟩ rfl hl.1 rfl (Nat.le_of_ble_eq_true rfl) dL_law_841 ⟨by omega, by omega⟩) (fun H locs S => ?_)
            refine lv_if_ne (tgt := 851) hx hb dL_law_844 rfl (fun c130 => ?_) (fun c130 => ?_)
            · have h := h_f c130 h
              refine lv_iconst (v := 0) hx hb dL_law_851 (by decide) ?_
              refine lv_iadd hx hb dL_law_852 ?_
              refine lv_topi (fun v131 ev131 => ?_)
              have h := h_l h v131 ev131
              refine lv_istore (lv' := [(18, .int v131), (0, .ref bb), (1, .ref (q 0)), (2, .ref (q 72)), (3, .ref (q 73)), (4, .ref (q 74)), (5, .ref (q 75)), (6, .ref (q 76)), (9, .int l9), (10, .int l10), (11, .int l11), (12, .int l12), (16, .int l16), (17, .int l17), (19, .int l19), (20, .int l20)]) hx hb dL_law_853 hl (Nat.le_of_ble_eq_true rfl) rfl (fun ls hl => ?_)
              refine lv_iinc (v := (l20 + 1)) (lv' := [(20, .int (l20 + 1)), (18, .int v131), (0, .ref bb), (1, .ref (q 0)), (2, .ref (q 72)), (3, .ref (q 73)), (4, .ref (q 74)), (5, .ref (q 75)), (6, .ref (q 76)), (9, .int l9), (10, .int l10), (11, .int l11), (12, .int l12), (16, .int l16), (17, .int l17), (19, .int l19)]) hx hb dL_law_855 hl (k := 15) rfl rfl (Nat.le_of_ble_eq_true rfl) rfl (fun ls hl => ?_)
              refine lv_goto (tgt := 829) hx hb dL_law_858 rfl ?_
              exact ih829 v131 (l20 + 1) _ _ (by omega) (by omega) _ _ _ (lv_sub hl [2, 3, 4, 5, 6, 7, 8, 9, 10, 11, 12, 13, 14, 1, 15, 0] rfl) S h
            · have h := h_t c130 h
              refine lv_iconst (v := 1) hx hb dL_law_847 (by decide) ?_
              refine lv_goto (tgt := 852) hx hb dL_law_848 rfl ?_
              refine lv_iadd hx hb dL_law_852 ?_
              refine lv_topi (fun v132 ev132 => ?_)
              have h := h_l h v132 ev132
              refine lv_istore (lv' := [(18, .int v132), (0, .ref bb), (1, .ref (q 0)), (2, .ref (q 72)), (3, .ref (q 73)), (4, .ref (q 74)), (5, .ref (q 75)), (6, .ref (q 76)), (9, .int l9), (10, .int l10), (11, .int l11), (12, .int l12), (16, .int l16), (17, .int l17), (19, .int l19), (20, .int l20)]) hx hb dL_law_853 hl (Nat.le_of_ble_eq_true rfl) rfl (fun ls hl => ?_)
              refine lv_iinc (v := (l20 + 1)) (lv' := [(20, .int (l20 + 1)), (18, .int v132), (0, .ref bb), (1, .ref (q 0)), (2, .ref (q 72)), (3, .ref (q 73)), (4, .ref (q 74)), (5, .ref (q 75)), (6, .ref (q 76)), (9, .int l9), (10, .int l10), (11, .int l11), (12, .int l12), (16, .int l16), (17, .int l17), (19, .int l19)]) hx hb dL_law_855 hl (k := 15) rfl rfl (Nat.le_of_ble_eq_true rfl) rfl (fun ls hl => ?_)
              refine lv_goto (tgt := 829) hx hb dL_law_858 rfl ?_
              exact ih829 v132 (l20 + 1) _ _ (by omega) (by omega) _ _ _ (lv_sub hl [2, 3, 4, 5, 6, 7, 8, 9, 10, 11, 12, 13, 14, 1, 15, 0] rfl) S h
      have lab808 : ∀ (l9 : Int32) (l10 : Int32) (l11 : Int32) (l12 : Int32) (l16 : Int32) (t0 : Int32) (w : Wt) (cl sl : Nat) (hc : cl + (1176 + (n139 * 1572)) ≤ 81604) (hs : sl + 6 * (1176 + (n139 * 1572)) ≤ 489624) (H : Heap) (locs : List Loc) (ls : Array Slot), lv_has ls 22 [(0, .ref bb), (1, .ref (q 0)), (2, .ref (q 72)), (3, .ref (q 73)), (4, .ref (q 74)), (5, .ref (q 75)), (6, .ref (q 76)), (9, .int l9), (10, .int l10), (11, .int l11), (12, .int l12), (16, .int l16)] → Sta KL D dA q A s.heap w H locs → Option.bind (l_law_b808 xs L l9 l10 l11 l12 l16 t0 w) (seqF (fun s9 => Option.bind (lp (l_law_L139 xs L) n139 s9) (fun x9 => Option.bind (l_law_x139 xs L x9) some)) (fun x9 => Option.bind (l_law_x139 xs L x9) some)) = some z → W p l e R s m args below meth c H locs cl sl Q (F0 m 808 ls [.int t0]) := by
        intro l9 l10 l11 l12 l16 t0 w cl sl hc hs H locs ls hl S h
        unfold l_law_b808 at h
        refine lv_istore (lv' := [(7, .int t0), (0, .ref bb), (1, .ref (q 0)), (2, .ref (q 72)), (3, .ref (q 73)), (4, .ref (q 74)), (5, .ref (q 75)), (6, .ref (q 76)), (9, .int l9), (10, .int l10), (11, .int l11), (12, .int l12), (16, .int l16)]) hx hb dL_law_808 hl (Nat.le_of_ble_eq_true rfl) rfl (fun ls hl => ?_)
        refine lv_goto (tgt := 1428) hx hb dL_law_810 rfl ?_
        exact lab1428 t0 l9 l10 l11 l12 l16 w _ _ (by omega) (by omega) _ _ _ (lv_sub hl [1, 2, 3, 4, 5, 6, 7, 0, 8, 9, 10, 11, 12] rfl) S h
      have lab779 : ∀ (l7 : Int32) (l9 : Int32) (l10 : Int32) (l11 : Int32) (l12 : Int32) (l16 : Int32) (w : Wt) (cl sl : Nat) (hc : cl + (1176 + (n139 * 1572)) ≤ 81604) (hs : sl + 6 * (1176 + (n139 * 1572)) ≤ 489624) (H : Heap) (locs : List Loc) (ls : Array Slot), lv_has ls 22 [(0, .ref bb), (1, .ref (q 0)), (2, .ref (q 72)), (3, .ref (q 73)), (4, .ref (q 74)), (5, .ref (q 75)), (6, .ref (q 76)), (7, .int l7), (9, .int l9), (10, .int l10), (11, .int l11), (12, .int l12), (16, .int l16)] → Sta KL D dA q A s.heap w H locs → Option.bind (l_law_b779 xs L l7 l9 l10 l11 l12 l16 w) (seqF (fun s9 => Option.bind (lp (l_law_L139 xs L) n139 s9) (fun x9 => Option.bind (l_law_x139 xs L x9) some)) (fun x9 => Option.bind (l_law_x139 xs L x9) some)) = some z → W p l e R s m args below meth c H locs cl sl Q (F0 m 779 ls []) := by
        intro l7 l9 l10 l11 l12 l16 w cl sl hc hs H locs ls hl S h
        unfold l_law_b779 at h
        refine lv_goto (tgt := 1428) hx hb dL_law_779 rfl ?_
        exact lab1428 l7 l9 l10 l11 l12 l16 w _ _ (by omega) (by omega) _ _ _ (lv_sub hl [0, 1, 2, 3, 4, 5, 6, 7, 8, 9, 10, 11, 12] rfl) S h
      have lab740 : ∀ (l9 : Int32) (l10 : Int32) (l11 : Int32) (l12 : Int32) (l16 : Int32) (t0 : Int32) (w : Wt) (cl sl : Nat) (hc : cl + (1176 + (n139 * 1572)) ≤ 81604) (hs : sl + 6 * (1176 + (n139 * 1572)) ≤ 489624) (H : Heap) (locs : List Loc) (ls : Array Slot), lv_has ls 22 [(0, .ref bb), (1, .ref (q 0)), (2, .ref (q 72)), (3, .ref (q 73)), (4, .ref (q 74)), (5, .ref (q 75)), (6, .ref (q 76)), (9, .int l9), (10, .int l10), (11, .int l11), (12, .int l12), (16, .int l16)] → Sta KL D dA q A s.heap w H locs → Option.bind (l_law_b740 xs L l9 l10 l11 l12 l16 t0 w) (seqF (fun s9 => Option.bind (lp (l_law_L139 xs L) n139 s9) (fun x9 => Option.bind (l_law_x139 xs L x9) some)) (fun x9 => Option.bind (l_law_x139 xs L x9) some)) = some z → W p l e R s m args below meth c H locs cl sl Q (F0 m 740 ls [.int t0]) := by
        intro l9 l10 l11 l12 l16 t0 w cl sl hc hs H locs ls hl S h
        unfold l_law_b740 at h
        refine lv_istore (lv' := [(7, .int t0), (0, .ref bb), (1, .ref (q 0)), (2, .ref (q 72)), (3, .ref (q 73)), (4, .ref (q 74)), (5, .ref (q 75)), (6, .ref (q 76)), (9, .int l9), (10, .int l10), (11, .int l11), (12, .int l12), (16, .int l16)]) hx hb dL_law_740 hl (Nat.le_of_ble_eq_true rfl) rfl (fun ls hl => ?_)
        refine lv_aload hx hb dL_law_742 (lv_at hl 7 rfl) ?_
        refine lv_iload hx hb dL_law_744 (lv_at hl 9 rfl) ?_
        refine lv_bipush (v := 100) hx hb dL_law_746 (by decide) ?_
        refine lv_iload hx hb dL_law_748 (lv_at hl 8 rfl) ?_
        refine lv_imul hx hb dL_law_750 ?_
        obtain ⟨g133, h⟩ := h_gd h
        refine r_iast hx hb C S KL_76 (h_in g133) dL_law_751 (fun w134 ew134 H locs S => ?_)
        have h := h_l h w134 ew134
        refine lv_iinc (v := (l9 + 1)) (lv' := [(9, .int (l9 + 1)), (7, .int t0), (0, .ref bb), (1, .ref (q 0)), (2, .ref (q 72)), (3, .ref (q 73)), (4, .ref (q 74)), (5, .ref (q 75)), (6, .ref (q 76)), (10, .int l10), (11, .int l11), (12, .int l12), (16, .int l16)]) hx hb dL_law_752 hl (k := 8) rfl rfl (Nat.le_of_ble_eq_true rfl) rfl (fun ls hl => ?_)
        refine lv_iinc (v := (l10 + 1)) (lv' := [(10, .int (l10 + 1)), (9, .int (l9 + 1)), (7, .int t0), (0, .ref bb), (1, .ref (q 0)), (2, .ref (q 72)), (3, .ref (q 73)), (4, .ref (q 74)), (5, .ref (q 75)), (6, .ref (q 76)), (11, .int l11), (12, .int l12), (16, .int l16)]) hx hb dL_law_755 hl (k := 9) rfl rfl (Nat.le_of_ble_eq_true rfl) rfl (fun ls hl => ?_)
        refine lv_goto (tgt := 779) hx hb dL_law_758 rfl ?_
        exact lab779 t0 (l9 + 1) (l10 + 1) l11 l12 l16 w134 _ _ (by omega) (by omega) _ _ _ (lv_sub hl [3, 4, 5, 6, 7, 8, 9, 2, 1, 0, 10, 11, 12] rfl) S h
      have lab739 : ∀ (l9 : Int32) (l10 : Int32) (l11 : Int32) (l12 : Int32) (l16 : Int32) (w : Wt) (cl sl : Nat) (hc : cl + (1176 + (n139 * 1572)) ≤ 81604) (hs : sl + 6 * (1176 + (n139 * 1572)) ≤ 489624) (H : Heap) (locs : List Loc) (ls : Array Slot), lv_has ls 22 [(0, .ref bb), (1, .ref (q 0)), (2, .ref (q 72)), (3, .ref (q 73)), (4, .ref (q 74)), (5, .ref (q 75)), (6, .ref (q 76)), (9, .int l9), (10, .int l10), (11, .int l11), (12, .int l12), (16, .int l16)] → Sta KL D dA q A s.heap w H locs → Option.bind (l_law_b739 xs L l9 l10 l11 l12 l16 w) (seqF (fun s9 => Option.bind (lp (l_law_L139 xs L) n139 s9) (fun x9 => Option.bind (l_law_x139 xs L x9) some)) (fun x9 => Option.bind (l_law_x139 xs L x9) some)) = some z → W p l e R s m args below meth c H locs cl sl Q (F0 m 739 ls []) := by
        intro l9 l10 l11 l12 l16 w cl sl hc hs H locs ls hl S h
        unfold l_law_b739 at h
        refine lv_iconst (v := 0) hx hb dL_law_739 (by decide) ?_
        exact lab740 l9 l10 l11 l12 l16 (0 : Int32) w _ _ (by omega) (by omega) _ _ _ (lv_sub hl [0, 1, 2, 3, 4, 5, 6, 7, 8, 9, 10, 11] rfl) S h
      have lab691 : ∀ (l9 : Int32) (l10 : Int32) (l11 : Int32) (l12 : Int32) (l16 : Int32) (t0 : Int32) (w : Wt) (cl sl : Nat) (hc : cl + (1180 + (n139 * 1572)) ≤ 81604) (hs : sl + 6 * (1180 + (n139 * 1572)) ≤ 489624) (H : Heap) (locs : List Loc) (ls : Array Slot), lv_has ls 22 [(0, .ref bb), (1, .ref (q 0)), (2, .ref (q 72)), (3, .ref (q 73)), (4, .ref (q 74)), (5, .ref (q 75)), (6, .ref (q 76)), (9, .int l9), (10, .int l10), (11, .int l11), (12, .int l12), (16, .int l16)] → Sta KL D dA q A s.heap w H locs → Option.bind (l_law_b691 xs L l9 l10 l11 l12 l16 t0 w) (seqF (fun s9 => Option.bind (lp (l_law_L139 xs L) n139 s9) (fun x9 => Option.bind (l_law_x139 xs L x9) some)) (fun x9 => Option.bind (l_law_x139 xs L x9) some)) = some z → W p l e R s m args below meth c H locs cl sl Q (F0 m 691 ls [.int t0]) := by
        intro l9 l10 l11 l12 l16 t0 w cl sl hc hs H locs ls hl S h
        unfold l_law_b691 at h
        refine lv_istore (lv' := [(7, .int t0), (0, .ref bb), (1, .ref (q 0)), (2, .ref (q 72)), (3, .ref (q 73)), (4, .ref (q 74)), (5, .ref (q 75)), (6, .ref (q 76)), (9, .int l9), (10, .int l10), (11, .int l11), (12, .int l12), (16, .int l16)]) hx hb dL_law_691 hl (Nat.le_of_ble_eq_true rfl) rfl (fun ls hl => ?_)
        refine lv_iload hx hb dL_law_693 (lv_at hl 8 rfl) ?_
        refine lv_bipush (v := 6) hx hb dL_law_695 (by decide) ?_
        refine lv_icmp_ge (tgt := 761) hx hb dL_law_697 rfl (fun c135 => ?_) (fun c135 => ?_)
        · have h := h_t c135 h
          refine lv_iload hx hb dL_law_761 (lv_at hl 0 rfl) ?_
          refine lv_if_eq (tgt := 777) hx hb dL_law_763 rfl (fun c136 => ?_) (fun c136 => ?_)
          · have h := h_t c136 h
            refine lv_iconst (v := 0) hx hb dL_law_777 (by decide) ?_
            exact fin _ _ _ (0 : Int32) w _ _ _ (by omega) (by omega) (by decide) S h dL_law_778
          · have h := h_f c136 h
            refine lv_aload_n hx hb dL_law_766 rfl (lv_at hl 2 rfl) ?_
            obtain ⟨x137, ex137, h⟩ := h_c h
            refine kl_i C S (q_V (rest := []) (As := []) lk_RL_144 EVc_ok hx hb hml (kC C) (kS S) KC_0 rfl (c_f_Ballotscript_stale l D dA q w x137.2 x137.1 ex137 _) rfl rfl ⟨Nat.le_trans (Nat.le_of_ble_eq_true rfl) hRf, Nat.le_trans (Nat.le_of_ble_eq_true rfl) hRl⟩ rfl hl.1 rfl (Nat.le_of_ble_eq_true rfl) dL_law_767 ⟨by omega, by omega⟩) (fun w138 ew138 H locs S => ?_)
            have h := h_l h w138 ew138
            refine lv_if_lt (tgt := 777) hx hb dL_law_770 rfl (fun c139 => ?_) (fun c139 => ?_)
            · have h := h_t c139 h
              refine lv_iconst (v := 0) hx hb dL_law_777 (by decide) ?_
              exact fin _ _ _ (0 : Int32) w138 _ _ _ (by omega) (by omega) (by decide) S h dL_law_778
            · have h := h_f c139 h
              refine lv_iconst (v := 1) hx hb dL_law_773 (by decide) ?_
              refine lv_goto (tgt := 778) hx hb dL_law_774 rfl ?_
              exact fin _ _ _ (1 : Int32) w138 _ _ _ (by omega) (by omega) (by decide) S h dL_law_778
        · have h := h_f c135 h
          refine lv_aload_n hx hb dL_law_700 rfl (lv_at hl 4 rfl) ?_
          refine lv_iload hx hb dL_law_701 (lv_at hl 8 rfl) ?_
          refine lv_bipush (v := 6) hx hb dL_law_703 (by decide) ?_
          obtain ⟨g140, h⟩ := h_gd h
          refine r_iast hx hb C S KL_73 (h_in g140) dL_law_705 (fun w141 ew141 H locs S => ?_)
          have h := h_l h w141 ew141
          refine lv_aload hx hb dL_law_706 (lv_at hl 5 rfl) ?_
          refine lv_iload hx hb dL_law_708 (lv_at hl 8 rfl) ?_
          refine lv_iconst (v := 1) hx hb dL_law_710 (by decide) ?_
          obtain ⟨g142, h⟩ := h_gd h
          refine r_iast hx hb C S KL_74 (h_in g142) dL_law_711 (fun w143 ew143 H locs S => ?_)
          have h := h_l h w143 ew143
          refine lv_aload hx hb dL_law_712 (lv_at hl 6 rfl) ?_
          refine lv_iload hx hb dL_law_714 (lv_at hl 8 rfl) ?_
          refine lv_iconst (v := -1) hx hb dL_law_716 (by decide) ?_
          obtain ⟨g144, h⟩ := h_gd h
          refine r_iast hx hb C S KL_75 (h_in g144) dL_law_717 (fun w145 ew145 H locs S => ?_)
          have h := h_l h w145 ew145
          refine lv_iload hx hb dL_law_718 (lv_at hl 0 rfl) ?_
          refine lv_if_eq (tgt := 739) hx hb dL_law_720 rfl (fun c146 => ?_) (fun c146 => ?_)
          · have h := h_t c146 h
            exact lab739 l9 l10 l11 l12 l16 w145 _ _ (by omega) (by omega) _ _ _ (lv_sub hl [1, 2, 3, 4, 5, 6, 7, 8, 9, 10, 11, 12] rfl) S h
          · have h := h_f c146 h
            refine lv_aload_n hx hb dL_law_723 rfl (lv_at hl 2 rfl) ?_
            refine lv_iload hx hb dL_law_724 (lv_at hl 8 rfl) ?_
            refine lv_iconst (v := 0) hx hb dL_law_726 (by decide) ?_
            obtain ⟨x147, ex147, h⟩ := h_c h
            refine kl_i C S (w_S (rest := []) (As := [.ref (q 0), .int l9, .int (0 : Int32)]) lw_166 hx hb hml C S (c_l_cast l hfl D dA q l9 (0 : Int32) w145 x147.2 x147.1 ex147) ⟨Nat.le_trans (Nat.le_of_ble_eq_true rfl) hRf, Nat.le_trans (Nat.le_of_ble_eq_true rfl) hRl⟩ rfl hl.1 rfl (Nat.le_of_ble_eq_true rfl) dL_law_727 ⟨by omega, by omega⟩) (fun w148 ew148 H locs S => ?_)
            have h := h_l h w148 ew148
            refine lv_iload hx hb dL_law_730 (lv_at hl 9 rfl) ?_
            refine lv_icmp_ne (tgt := 739) hx hb dL_law_732 rfl (fun c149 => ?_) (fun c149 => ?_)
            · have h := h_f c149 h
              exact lab739 l9 l10 l11 l12 l16 w148 _ _ (by omega) (by omega) _ _ _ (lv_sub hl [1, 2, 3, 4, 5, 6, 7, 8, 9, 10, 11, 12] rfl) S h
            · have h := h_t c149 h
              refine lv_iconst (v := 1) hx hb dL_law_735 (by decide) ?_
              refine lv_goto (tgt := 740) hx hb dL_law_736 rfl ?_
              exact lab740 l9 l10 l11 l12 l16 (1 : Int32) w148 _ _ (by omega) (by omega) _ _ _ (lv_sub hl [1, 2, 3, 4, 5, 6, 7, 8, 9, 10, 11, 12] rfl) S h
      have lab686 : ∀ (l9 : Int32) (l10 : Int32) (l11 : Int32) (l12 : Int32) (l16 : Int32) (w : Wt) (cl sl : Nat) (hc : cl + (1180 + (n139 * 1572)) ≤ 81604) (hs : sl + 6 * (1180 + (n139 * 1572)) ≤ 489624) (H : Heap) (locs : List Loc) (ls : Array Slot), lv_has ls 22 [(0, .ref bb), (1, .ref (q 0)), (2, .ref (q 72)), (3, .ref (q 73)), (4, .ref (q 74)), (5, .ref (q 75)), (6, .ref (q 76)), (9, .int l9), (10, .int l10), (11, .int l11), (12, .int l12), (16, .int l16)] → Sta KL D dA q A s.heap w H locs → Option.bind (l_law_b686 xs L l9 l10 l11 l12 l16 w) (seqF (fun s9 => Option.bind (lp (l_law_L139 xs L) n139 s9) (fun x9 => Option.bind (l_law_x139 xs L x9) some)) (fun x9 => Option.bind (l_law_x139 xs L x9) some)) = some z → W p l e R s m args below meth c H locs cl sl Q (F0 m 686 ls []) := by
        intro l9 l10 l11 l12 l16 w cl sl hc hs H locs ls hl S h
        unfold l_law_b686 at h
        refine lv_iconst (v := 1) hx hb dL_law_686 (by decide) ?_
        refine lv_goto (tgt := 691) hx hb dL_law_687 rfl ?_
        exact lab691 l9 l10 l11 l12 l16 (1 : Int32) w _ _ (by omega) (by omega) _ _ _ (lv_sub hl [0, 1, 2, 3, 4, 5, 6, 7, 8, 9, 10, 11] rfl) S h
      have lab653 : ∀ (l7 : Int32) (l9 : Int32) (l10 : Int32) (l11 : Int32) (l12 : Int32) (l16 : Int32) (w : Wt) (cl sl : Nat) (hc : cl + (1184 + (n139 * 1572)) ≤ 81604) (hs : sl + 6 * (1184 + (n139 * 1572)) ≤ 489624) (H : Heap) (locs : List Loc) (ls : Array Slot), lv_has ls 22 [(0, .ref bb), (1, .ref (q 0)), (2, .ref (q 72)), (3, .ref (q 73)), (4, .ref (q 74)), (5, .ref (q 75)), (6, .ref (q 76)), (7, .int l7), (9, .int l9), (10, .int l10), (11, .int l11), (12, .int l12), (16, .int l16)] → Sta KL D dA q A s.heap w H locs → Option.bind (l_law_b653 xs L l7 l9 l10 l11 l12 l16 w) (seqF (fun s9 => Option.bind (lp (l_law_L139 xs L) n139 s9) (fun x9 => Option.bind (l_law_x139 xs L x9) some)) (fun x9 => Option.bind (l_law_x139 xs L x9) some)) = some z → W p l e R s m args below meth c H locs cl sl Q (F0 m 653 ls []) := by
        intro l7 l9 l10 l11 l12 l16 w cl sl hc hs H locs ls hl S h
        unfold l_law_b653 at h
        refine lv_iload hx hb dL_law_653 (lv_at hl 7 rfl) ?_
        refine lv_if_eq (tgt := 779) hx hb dL_law_655 rfl (fun c150 => ?_) (fun c150 => ?_)
        · have h := h_t c150 h
          exact lab779 l7 l9 l10 l11 l12 l16 w _ _ (by omega) (by omega) _ _ _ (lv_sub hl [0, 1, 2, 3, 4, 5, 6, 7, 8, 9, 10, 11, 12] rfl) S h
        · have h := h_f c150 h
          refine lv_iload hx hb dL_law_658 (lv_at hl 9 rfl) ?_
          refine lv_bipush (v := 48) hx hb dL_law_660 (by decide) ?_
          refine lv_icmp_ge (tgt := 779) hx hb dL_law_662 rfl (fun c151 => ?_) (fun c151 => ?_)
          · have h := h_t c151 h
            exact lab779 l7 l9 l10 l11 l12 l16 w _ _ (by omega) (by omega) _ _ _ (lv_sub hl [0, 1, 2, 3, 4, 5, 6, 7, 8, 9, 10, 11, 12] rfl) S h
          · have h := h_f c151 h
            refine lv_iload hx hb dL_law_665 (lv_at hl 8 rfl) ?_
            refine lv_bipush (v := 6) hx hb dL_law_667 (by decide) ?_
            refine lv_icmp_eq (tgt := 686) hx hb dL_law_669 rfl (fun c152 => ?_) (fun c152 => ?_)
            · have h := h_t c152 h
              exact lab686 l9 l10 l11 l12 l16 w _ _ (by omega) (by omega) _ _ _ (lv_sub hl [0, 1, 2, 3, 4, 5, 6, 8, 9, 10, 11, 12] rfl) S h
            · have h := h_f c152 h
              refine lv_aload_n hx hb dL_law_672 rfl (lv_at hl 1 rfl) ?_
              refine lv_iconst (v := 0) hx hb dL_law_673 (by decide) ?_
              refine lv_bipush (v := 6) hx hb dL_law_674 (by decide) ?_
              refine lv_iconst (v := 1) hx hb dL_law_676 (by decide) ?_
              refine lv_iconst (v := 0) hx hb dL_law_677 (by decide) ?_
              obtain ⟨x153, ex153, h⟩ := h_c h
              refine kl_i C S (w_S (rest := []) (As := [.ref (q 0), .int (0 : Int32), .int (6 : Int32), .int (1 : Int32), .int (0 : Int32)]) lw_156 hx hb hml C S (c_l_open l hfl D dA q (0 : Int32) (6 : Int32) (1 : Int32) (0 : Int32) w x153.2 x153.1 ex153) ⟨Nat.le_trans (Nat.le_of_ble_eq_true rfl) hRf, Nat.le_trans (Nat.le_of_ble_eq_true rfl) hRl⟩ rfl hl.1 rfl (Nat.le_of_ble_eq_true rfl) dL_law_678 ⟨by omega, by omega⟩) (fun w154 ew154 H locs S => ?_)
              have h := h_l h w154 ew154
              refine lv_iload hx hb dL_law_681 (lv_at hl 8 rfl) ?_
              refine lv_icmp_ne (tgt := 690) hx hb dL_law_683 rfl (fun c155 => ?_) (fun c155 => ?_)
              · have h := h_f c155 h
                refine lv_iconst (v := 0) hx hb dL_law_690 (by decide) ?_
                exact lab691 l9 l10 l11 l12 l16 (0 : Int32) w154 _ _ (by omega) (by omega) _ _ _ (lv_sub hl [0, 1, 2, 3, 4, 5, 6, 8, 9, 10, 11, 12] rfl) S h
              · have h := h_t c155 h
                exact lab686 l9 l10 l11 l12 l16 w154 _ _ (by omega) (by omega) _ _ _ (lv_sub hl [0, 1, 2, 3, 4, 5, 6, 8, 9, 10, 11, 12] rfl) S h
      have lab616 : ∀ (l9 : Int32) (l10 : Int32) (l11 : Int32) (l12 : Int32) (l16 : Int32) (l17 : Int32) (l20 : Int32) (t0 : Int32) (w : Wt) (cl sl : Nat) (hc : cl + (1184 + (n139 * 1572)) ≤ 81604) (hs : sl + 6 * (1184 + (n139 * 1572)) ≤ 489624) (H : Heap) (locs : List Loc) (ls : Array Slot), lv_has ls 22 [(0, .ref bb), (1, .ref (q 0)), (2, .ref (q 72)), (3, .ref (q 73)), (4, .ref (q 74)), (5, .ref (q 75)), (6, .ref (q 76)), (9, .int l9), (10, .int l10), (11, .int l11), (12, .int l12), (16, .int l16), (17, .int l17), (20, .int l20)] → Sta KL D dA q A s.heap w H locs → Option.bind (l_law_b616 xs L l9 l10 l11 l12 l16 l17 l20 t0 w) (seqF (fun s9 => Option.bind (lp (l_law_L139 xs L) n139 s9) (fun x9 => Option.bind (l_law_x139 xs L x9) some)) (fun x9 => Option.bind (l_law_x139 xs L x9) some)) = some z → W p l e R s m args below meth c H locs cl sl Q (F0 m 616 ls [.int t0]) := by
        intro l9 l10 l11 l12 l16 l17 l20 t0 w cl sl hc hs H locs ls hl S h
        unfold l_law_b616 at h
        refine lv_istore (lv' := [(7, .int t0), (0, .ref bb), (1, .ref (q 0)), (2, .ref (q 72)), (3, .ref (q 73)), (4, .ref (q 74)), (5, .ref (q 75)), (6, .ref (q 76)), (9, .int l9), (10, .int l10), (11, .int l11), (12, .int l12), (16, .int l16), (17, .int l17), (20, .int l20)]) hx hb dL_law_616 hl (Nat.le_of_ble_eq_true rfl) rfl (fun ls hl => ?_)
        refine lv_iload hx hb dL_law_618 (lv_at hl 0 rfl) ?_
        refine lv_if_eq (tgt := 653) hx hb dL_law_620 rfl (fun c156 => ?_) (fun c156 => ?_)
        · have h := h_t c156 h
          exact lab653 t0 l9 l10 l11 l12 l16 w _ _ (by omega) (by omega) _ _ _ (lv_sub hl [1, 2, 3, 4, 5, 6, 7, 0, 8, 9, 10, 11, 12] rfl) S h
        · have h := h_f c156 h
          refine lv_iload hx hb dL_law_623 (lv_at hl 14 rfl) ?_
          refine lv_if_lt (tgt := 653) hx hb dL_law_625 rfl (fun c157 => ?_) (fun c157 => ?_)
          · have h := h_t c157 h
            exact lab653 t0 l9 l10 l11 l12 l16 w _ _ (by omega) (by omega) _ _ _ (lv_sub hl [1, 2, 3, 4, 5, 6, 7, 0, 8, 9, 10, 11, 12] rfl) S h
          · have h := h_f c157 h
            refine lv_aload hx hb dL_law_628 (lv_at hl 7 rfl) ?_
            refine lv_iload hx hb dL_law_630 (lv_at hl 9 rfl) ?_
            refine lv_bipush (v := 100) hx hb dL_law_632 (by decide) ?_
            refine lv_iload hx hb dL_law_634 (lv_at hl 12 rfl) ?_
            refine lv_imul hx hb dL_law_636 ?_
            refine lv_iload hx hb dL_law_637 (lv_at hl 13 rfl) ?_
            refine lv_bipush (v := 49) hx hb dL_law_639 (by decide) ?_
            obtain ⟨g158, h⟩ := h_gd h
            refine lv_idiv hx hb dL_law_641 (nz_of g158) ?_
            refine lv_bipush (v := 8) hx hb dL_law_642 (by decide) ?_
            obtain ⟨g159, h⟩ := h_gd h
            refine lv_irem hx hb dL_law_644 (nz_of g159) ?_
            refine lv_iadd hx hb dL_law_645 ?_
            obtain ⟨g160, h⟩ := h_gd h
            refine r_iast hx hb C S KL_76 (h_in g160) dL_law_646 (fun w161 ew161 H locs S => ?_)
            have h := h_l h w161 ew161
            refine lv_iinc (v := (l10 + 1)) (lv' := [(10, .int (l10 + 1)), (7, .int t0), (0, .ref bb), (1, .ref (q 0)), (2, .ref (q 72)), (3, .ref (q 73)), (4, .ref (q 74)), (5, .ref (q 75)), (6, .ref (q 76)), (9, .int l9), (11, .int l11), (12, .int l12), (16, .int l16), (17, .int l17), (20, .int l20)]) hx hb dL_law_647 hl (k := 9) rfl rfl (Nat.le_of_ble_eq_true rfl) rfl (fun ls hl => ?_)
            refine lv_goto (tgt := 779) hx hb dL_law_650 rfl ?_
            exact lab779 t0 l9 (l10 + 1) l11 l12 l16 w161 _ _ (by omega) (by omega) _ _ _ (lv_sub hl [2, 3, 4, 5, 6, 7, 8, 1, 9, 0, 10, 11, 12] rfl) S h
      have lab615 : ∀ (l9 : Int32) (l10 : Int32) (l11 : Int32) (l12 : Int32) (l16 : Int32) (l17 : Int32) (l20 : Int32) (w : Wt) (cl sl : Nat) (hc : cl + (1184 + (n139 * 1572)) ≤ 81604) (hs : sl + 6 * (1184 + (n139 * 1572)) ≤ 489624) (H : Heap) (locs : List Loc) (ls : Array Slot), lv_has ls 22 [(0, .ref bb), (1, .ref (q 0)), (2, .ref (q 72)), (3, .ref (q 73)), (4, .ref (q 74)), (5, .ref (q 75)), (6, .ref (q 76)), (9, .int l9), (10, .int l10), (11, .int l11), (12, .int l12), (16, .int l16), (17, .int l17), (20, .int l20)] → Sta KL D dA q A s.heap w H locs → Option.bind (l_law_b615 xs L l9 l10 l11 l12 l16 l17 l20 w) (seqF (fun s9 => Option.bind (lp (l_law_L139 xs L) n139 s9) (fun x9 => Option.bind (l_law_x139 xs L x9) some)) (fun x9 => Option.bind (l_law_x139 xs L x9) some)) = some z → W p l e R s m args below meth c H locs cl sl Q (F0 m 615 ls []) := by
        intro l9 l10 l11 l12 l16 l17 l20 w cl sl hc hs H locs ls hl S h
        unfold l_law_b615 at h
        refine lv_iconst (v := 0) hx hb dL_law_615 (by decide) ?_
        exact lab616 l9 l10 l11 l12 l16 l17 l20 (0 : Int32) w _ _ (by omega) (by omega) _ _ _ (lv_sub hl [0, 1, 2, 3, 4, 5, 6, 7, 8, 9, 10, 11, 12, 13] rfl) S h
      have lab611 : ∀ (l9 : Int32) (l10 : Int32) (l11 : Int32) (l12 : Int32) (l16 : Int32) (l17 : Int32) (l20 : Int32) (w : Wt) (cl sl : Nat) (hc : cl + (1184 + (n139 * 1572)) ≤ 81604) (hs : sl + 6 * (1184 + (n139 * 1572)) ≤ 489624) (H : Heap) (locs : List Loc) (ls : Array Slot), lv_has ls 22 [(0, .ref bb), (1, .ref (q 0)), (2, .ref (q 72)), (3, .ref (q 73)), (4, .ref (q 74)), (5, .ref (q 75)), (6, .ref (q 76)), (9, .int l9), (10, .int l10), (11, .int l11), (12, .int l12), (16, .int l16), (17, .int l17), (20, .int l20)] → Sta KL D dA q A s.heap w H locs → Option.bind (l_law_b611 xs L l9 l10 l11 l12 l16 l17 l20 w) (seqF (fun s9 => Option.bind (lp (l_law_L139 xs L) n139 s9) (fun x9 => Option.bind (l_law_x139 xs L x9) some)) (fun x9 => Option.bind (l_law_x139 xs L x9) some)) = some z → W p l e R s m args below meth c H locs cl sl Q (F0 m 611 ls []) := by
        intro l9 l10 l11 l12 l16 l17 l20 w cl sl hc hs H locs ls hl S h
        unfold l_law_b611 at h
        refine lv_iconst (v := 1) hx hb dL_law_611 (by decide) ?_
        refine lv_goto (tgt := 616) hx hb dL_law_612 rfl ?_
        exact lab616 l9 l10 l11 l12 l16 l17 l20 (1 : Int32) w _ _ (by omega) (by omega) _ _ _ (lv_sub hl [0, 1, 2, 3, 4, 5, 6, 7, 8, 9, 10, 11, 12, 13] rfl) S h
      have lab604 : ∀ (l9 : Int32) (l10 : Int32) (l11 : Int32) (l12 : Int32) (l16 : Int32) (l17 : Int32) (l20 : Int32) (w : Wt) (cl sl : Nat) (hc : cl + (1184 + (n139 * 1572)) ≤ 81604) (hs : sl + 6 * (1184 + (n139 * 1572)) ≤ 489624) (H : Heap) (locs : List Loc) (ls : Array Slot), lv_has ls 22 [(0, .ref bb), (1, .ref (q 0)), (2, .ref (q 72)), (3, .ref (q 73)), (4, .ref (q 74)), (5, .ref (q 75)), (6, .ref (q 76)), (9, .int l9), (10, .int l10), (11, .int l11), (12, .int l12), (16, .int l16), (17, .int l17), (20, .int l20)] → Sta KL D dA q A s.heap w H locs → Option.bind (l_law_b604 xs L l9 l10 l11 l12 l16 l17 l20 w) (seqF (fun s9 => Option.bind (lp (l_law_L139 xs L) n139 s9) (fun x9 => Option.bind (l_law_x139 xs L x9) some)) (fun x9 => Option.bind (l_law_x139 xs L x9) some)) = some z → W p l e R s m args below meth c H locs cl sl Q (F0 m 604 ls []) := by
        intro l9 l10 l11 l12 l16 l17 l20 w cl sl hc hs H locs ls hl S h
        unfold l_law_b604 at h
        refine lv_iload hx hb dL_law_604 (lv_at hl 13 rfl) ?_
        refine lv_bipush (v := -103) hx hb dL_law_606 (by decide) ?_
        refine lv_icmp_ne (tgt := 615) hx hb dL_law_608 rfl (fun c162 => ?_) (fun c162 => ?_)
        · have h := h_f c162 h
          exact lab615 l9 l10 l11 l12 l16 l17 l20 w _ _ (by omega) (by omega) _ _ _ (lv_sub hl [0, 1, 2, 3, 4, 5, 6, 7, 8, 9, 10, 11, 12, 13] rfl) S h
        · have h := h_t c162 h
          exact lab611 l9 l10 l11 l12 l16 l17 l20 w _ _ (by omega) (by omega) _ _ _ (lv_sub hl [0, 1, 2, 3, 4, 5, 6, 7, 8, 9, 10, 11, 12, 13] rfl) S h
      have lab509 : ∀ (l7 : Int32) (l9 : Int32) (l10 : Int32) (l11 : Int32) (l12 : Int32) (l16 : Int32) (l17 : Int32) (l19 : Int32) (w : Wt) (cl sl : Nat) (hc : cl + (1204 + (n139 * 1572)) ≤ 81604) (hs : sl + 6 * (1204 + (n139 * 1572)) ≤ 489624) (H : Heap) (locs : List Loc) (ls : Array Slot), lv_has ls 22 [(0, .ref bb), (1, .ref (q 0)), (2, .ref (q 72)), (3, .ref (q 73)), (4, .ref (q 74)), (5, .ref (q 75)), (6, .ref (q 76)), (7, .int l7), (9, .int l9), (10, .int l10), (11, .int l11), (12, .int l12), (16, .int l16), (17, .int l17), (19, .int l19)] → Sta KL D dA q A s.heap w H locs → Option.bind (l_law_b509 xs L l7 l9 l10 l11 l12 l16 l17 l19 w) (seqF (fun s9 => Option.bind (lp (l_law_L139 xs L) n139 s9) (fun x9 => Option.bind (l_law_x139 xs L x9) some)) (fun x9 => Option.bind (l_law_x139 xs L x9) some)) = some z → W p l e R s m args below meth c H locs cl sl Q (F0 m 509 ls []) := by
        intro l7 l9 l10 l11 l12 l16 l17 l19 w cl sl hc hs H locs ls hl S h
        unfold l_law_b509 at h
        refine lv_aload_n hx hb dL_law_509 rfl (lv_at hl 1 rfl) ?_
        refine lv_iload hx hb dL_law_510 (lv_at hl 12 rfl) ?_
        refine lv_iload hx hb dL_law_512 (lv_at hl 13 rfl) ?_
        refine lv_bipush (v := 49) hx hb dL_law_514 (by decide) ?_
        obtain ⟨g163, h⟩ := h_gd h
        refine lv_idiv hx hb dL_law_516 (nz_of g163) ?_
        refine lv_bipush (v := 8) hx hb dL_law_517 (by decide) ?_
        obtain ⟨g164, h⟩ := h_gd h
        refine lv_irem hx hb dL_law_519 (nz_of g164) ?_
        obtain ⟨x165, ex165, h⟩ := h_c h
        refine kl_i C S (w_S (rest := []) (As := [.ref (q 0), .int l16, .int ((l17 / (49 : Int32)) - (l17 / (49 : Int32)) / (8 : Int32) * (8 : Int32))]) lw_166 hx hb hml C S (c_l_cast l hfl D dA q l16 ((l17 / (49 : Int32)) - (l17 / (49 : Int32)) / (8 : Int32) * (8 : Int32)) w x165.2 x165.1 ex165) ⟨Nat.le_trans (Nat.le_of_ble_eq_true rfl) hRf, Nat.le_trans (Nat.le_of_ble_eq_true rfl) hRl⟩ rfl hl.1 rfl (Nat.le_of_ble_eq_true rfl) dL_law_520 ⟨by omega, by omega⟩) (fun w166 ew166 H locs S => ?_)
        have h := h_l h w166 ew166
        refine lv_topi (fun v167 ev167 => ?_)
        have h := h_l h v167 ev167
        refine lv_istore (lv' := [(20, .int v167), (0, .ref bb), (1, .ref (q 0)), (2, .ref (q 72)), (3, .ref (q 73)), (4, .ref (q 74)), (5, .ref (q 75)), (6, .ref (q 76)), (7, .int l7), (9, .int l9), (10, .int l10), (11, .int l11), (12, .int l12), (16, .int l16), (17, .int l17), (19, .int l19)]) hx hb dL_law_523 hl (Nat.le_of_ble_eq_true rfl) rfl (fun ls hl => ?_)
        refine lv_iload hx hb dL_law_525 (lv_at hl 8 rfl) ?_
        refine lv_if_eq (tgt := 615) hx hb dL_law_527 rfl (fun c168 => ?_) (fun c168 => ?_)
        · have h := h_t c168 h
          exact lab615 l9 l10 l11 l12 l16 l17 v167 w166 _ _ (by omega) (by omega) _ _ _ (lv_sub hl [1, 2, 3, 4, 5, 6, 7, 9, 10, 11, 12, 13, 14, 0] rfl) S h
        · have h := h_f c168 h
          refine lv_iload hx hb dL_law_530 (lv_at hl 10 rfl) ?_
          refine lv_bipush (v := 48) hx hb dL_law_532 (by decide) ?_
          refine lv_icmp_ge (tgt := 604) hx hb dL_law_534 rfl (fun c169 => ?_) (fun c169 => ?_)
          · have h := h_t c169 h
            exact lab604 l9 l10 l11 l12 l16 l17 v167 w166 _ _ (by omega) (by omega) _ _ _ (lv_sub hl [1, 2, 3, 4, 5, 6, 7, 9, 10, 11, 12, 13, 14, 0] rfl) S h
          · have h := h_f c169 h
            refine lv_aload_n hx hb dL_law_537 rfl (lv_at hl 2 rfl) ?_
            refine lv_iload hx hb dL_law_538 (lv_at hl 13 rfl) ?_
            obtain ⟨x170, ex170, h⟩ := h_c h
            refine kl_i0 C S (w_S (rest := []) (As := [.ref (q 0), .int l16]) lw_168 hx hb hml C S (c_l_certified l hfl D dA q l16 w166 x170 ex170) ⟨Nat.le_trans (Nat.le_of_ble_eq_true rfl) hRf, Nat.le_trans (Nat.le_of_ble_eq_true rfl) hRl⟩ rfl hl.1 rfl (Nat.le_of_ble_eq_true rfl) dL_law_540 ⟨by omega, by omega⟩) (fun H locs S => ?_)
            refine lv_iconst (v := -1) hx hb dL_law_543 (by decide) ?_
            refine lv_icmp_lt (tgt := 604) hx hb dL_law_544 rfl (fun c171 => ?_) (fun c171 => ?_)
            · have h := h_t c171 h
              exact lab604 l9 l10 l11 l12 l16 l17 v167 w166 _ _ (by omega) (by omega) _ _ _ (lv_sub hl [1, 2, 3, 4, 5, 6, 7, 9, 10, 11, 12, 13, 14, 0] rfl) S h
            · have h := h_f c171 h
              refine lv_iload hx hb dL_law_547 (lv_at hl 0 rfl) ?_
              refine lv_if_lt (tgt := 604) hx hb dL_law_549 rfl (fun c172 => ?_) (fun c172 => ?_)
              · have h := h_t c172 h
                exact lab604 l9 l10 l11 l12 l16 l17 v167 w166 _ _ (by omega) (by omega) _ _ _ (lv_sub hl [1, 2, 3, 4, 5, 6, 7, 9, 10, 11, 12, 13, 14, 0] rfl) S h
              · have h := h_f c172 h
                refine lv_iload hx hb dL_law_552 (lv_at hl 0 rfl) ?_
                refine lv_iload hx hb dL_law_554 (lv_at hl 10 rfl) ?_
                refine lv_icmp_ne (tgt := 615) hx hb dL_law_556 rfl (fun c173 => ?_) (fun c173 => ?_)
                · have h := h_f c173 h
                  exact lab615 l9 l10 l11 l12 l16 l17 v167 w166 _ _ (by omega) (by omega) _ _ _ (lv_sub hl [1, 2, 3, 4, 5, 6, 7, 9, 10, 11, 12, 13, 14, 0] rfl) S h
                · have h := h_t c173 h
                  refine lv_aload_n hx hb dL_law_559 rfl (lv_at hl 2 rfl) ?_
                  refine lv_iload hx hb dL_law_560 (lv_at hl 0 rfl) ?_
                  obtain ⟨x174, ex174, h⟩ := h_c h
                  refine kl_i0 C S (w_S (rest := []) (As := [.ref (q 0), .int v167]) lw_170 hx hb hml C S (c_l_why l hfl D dA q v167 w166 x174 ex174) ⟨Nat.le_trans (Nat.le_of_ble_eq_true rfl) hRf, Nat.le_trans (Nat.le_of_ble_eq_true rfl) hRl⟩ rfl hl.1 rfl (Nat.le_of_ble_eq_true rfl) dL_law_562 ⟨by omega, by omega⟩) (fun H locs S => ?_)
                  refine lv_iconst (v := 1) hx hb dL_law_565 (by decide) ?_
                  refine lv_icmp_eq (tgt := 615) hx hb dL_law_566 rfl (fun c175 => ?_) (fun c175 => ?_)
                  · have h := h_t c175 h
                    exact lab615 l9 l10 l11 l12 l16 l17 v167 w166 _ _ (by omega) (by omega) _ _ _ (lv_sub hl [1, 2, 3, 4, 5, 6, 7, 9, 10, 11, 12, 13, 14, 0] rfl) S h
                  · have h := h_f c175 h
                    refine lv_aload_n hx hb dL_law_569 rfl (lv_at hl 2 rfl) ?_
                    refine lv_iload hx hb dL_law_570 (lv_at hl 0 rfl) ?_
                    refine lv_iload hx hb dL_law_572 (lv_at hl 15 rfl) ?_
                    refine lv_iconst (v := 1) hx hb dL_law_574 (by decide) ?_
                    refine lv_isub hx hb dL_law_575 ?_
                    obtain ⟨x176, ex176, h⟩ := h_c h
                    refine kl_i0 C S (w_S (rest := []) (As := [.ref (q 0), .int v167, .int (l19 - (1 : Int32))]) lw_172 hx hb hml C S (c_l_read l hfl D dA q v167 (l19 - (1 : Int32)) w166 x176 ex176) ⟨Nat.le_trans (Nat.le_of_ble_eq_true rfl) hRf, Nat.le_trans (Nat.le_of_ble_eq_true rfl) hRl⟩ rfl hl.1 rfl (Nat.le_of_ble_eq_true rfl) dL_law_576 ⟨by omega, by omega⟩) (fun H locs S => ?_)
                    refine lv_if_lt (tgt := 615) hx hb dL_law_579 rfl (fun c177 => ?_) (fun c177 => ?_)
                    · have h := h_t c177 h
                      exact lab615 l9 l10 l11 l12 l16 l17 v167 w166 _ _ (by omega) (by omega) _ _ _ (lv_sub hl [1, 2, 3, 4, 5, 6, 7, 9, 10, 11, 12, 13, 14, 0] rfl) S h
                    · have h := h_f c177 h
                      refine lv_iload hx hb dL_law_582 (lv_at hl 15 rfl) ?_
                      refine lv_bipush (v := 6) hx hb dL_law_584 (by decide) ?_
                      refine lv_icmp_eq (tgt := 611) hx hb dL_law_586 rfl (fun c178 => ?_) (fun c178 => ?_)
                      · have h := h_t c178 h
                        exact lab611 l9 l10 l11 l12 l16 l17 v167 w166 _ _ (by omega) (by omega) _ _ _ (lv_sub hl [1, 2, 3, 4, 5, 6, 7, 9, 10, 11, 12, 13, 14, 0] rfl) S h
                      · have h := h_f c178 h
                        refine lv_aload_n hx hb dL_law_589 rfl (lv_at hl 2 rfl) ?_
                        refine lv_iload hx hb dL_law_590 (lv_at hl 0 rfl) ?_
                        refine lv_iload hx hb dL_law_592 (lv_at hl 15 rfl) ?_
                        obtain ⟨x179, ex179, h⟩ := h_c h
                        refine kl_i0 C S (w_S (rest := []) (As := [.ref (q 0), .int v167, .int l19]) lw_172 hx hb hml C S (c_l_read l hfl D dA q v167 l19 w166 x179 ex179) ⟨Nat.le_trans (Nat.le_of_ble_eq_true rfl) hRf, Nat.le_trans (Nat.le_of_ble_eq_true rfl) hRl⟩ rfl hl.1 rfl (Nat.le_of_ble_eq_true rfl) dL_law_594 ⟨by omega, by omega⟩) (fun H locs S => ?_)
                        refine lv_iconst (v := -1) hx hb dL_law_597 (by decide) ?_
                        refine lv_icmp_ne (tgt := 615) hx hb dL_law_598 rfl (fun c180 => ?_) (fun c180 => ?_)
                        · have h := h_f c180 h
                          exact lab615 l9 l10 l11 l12 l16 l17 v167 w166 _ _ (by omega) (by omega) _ _ _ (lv_sub hl [1, 2, 3, 4, 5, 6, 7, 9, 10, 11, 12, 13, 14, 0] rfl) S h
                        · have h := h_t c180 h
                          refine lv_goto (tgt := 611) hx hb dL_law_601 rfl ?_
                          exact lab611 l9 l10 l11 l12 l16 l17 v167 w166 _ _ (by omega) (by omega) _ _ _ (lv_sub hl [1, 2, 3, 4, 5, 6, 7, 9, 10, 11, 12, 13, 14, 0] rfl) S h
      have loop443 : ∀ (l9 : Int32) (l10 : Int32) (l11 : Int32) (l12 : Int32) (l16 : Int32) (l17 : Int32) (l18 : Int32) (l19 : Int32) (n443 : Nat), ∀ (l7 : Int32) (l21 : Int32) (w : Wt) (cl sl : Nat) (hc : cl + (1204 + (n443 * 4 + n139 * 1572)) ≤ 81604) (hs : sl + 6 * (1204 + (n443 * 4 + n139 * 1572)) ≤ 489624) (H : Heap) (locs : List Loc) (ls : Array Slot), lv_has ls 22 [(0, .ref bb), (1, .ref (q 0)), (2, .ref (q 72)), (3, .ref (q 73)), (4, .ref (q 74)), (5, .ref (q 75)), (6, .ref (q 76)), (7, .int l7), (9, .int l9), (10, .int l10), (11, .int l11), (12, .int l12), (16, .int l16), (17, .int l17), (18, .int l18), (19, .int l19), (21, .int l21)] → Sta KL D dA q A s.heap w H locs → Option.bind (lp (l_law_L443 xs L l9 l10 l11 l12 l16 l17 l18 l19) n443 (l7, l21, w)) (fun x9 => Option.bind (l_law_x443 xs L l9 l10 l11 l12 l16 l17 l19 x9) (seqF (fun s9 => Option.bind (lp (l_law_L139 xs L) n139 s9) (fun x9 => Option.bind (l_law_x139 xs L x9) some)) (fun x9 => Option.bind (l_law_x139 xs L x9) some))) = some z → W p l e R s m args below meth c H locs cl sl Q (F0 m 443 ls []) := by
        intro l9 l10 l11 l12 l16 l17 l18 l19 n443
        induction n443 with
        | zero =>
          intro l7 l21 w cl sl hc hs H locs ls hl S h
          exact (h_lp0 h).elim
        | succ n443 ih443 =>
          have lab481 : ∀ (l21 : Int32) (t0 : Int32) (t1 : Int32) (t2 : Int32) (w : Wt) (cl sl : Nat) (hc : cl + (1208 + (n443 * 4 + n139 * 1572)) ≤ 81604) (hs : sl + 6 * (1208 + (n443 * 4 + n139 * 1572)) ≤ 489624) (H : Heap) (locs : List Loc) (ls : Array Slot), lv_has ls 22 [(0, .ref bb), (1, .ref (q 0)), (2, .ref (q 72)), (3, .ref (q 73)), (4, .ref (q 74)), (5, .ref (q 75)), (6, .ref (q 76)), (9, .int l9), (10, .int l10), (11, .int l11), (12, .int l12), (16, .int l16), (17, .int l17), (18, .int l18), (19, .int l19), (21, .int l21)] → Sta KL D dA q A s.heap w H locs → Option.bind (l_law_b481 xs L l9 l10 l11 l12 l16 l17 l18 l19 l21 t0 t1 t2 w) (seqF (fun s9 => Option.bind (lp (l_law_L443 xs L l9 l10 l11 l12 l16 l17 l18 l19) n443 s9) (fun x9 => Option.bind (l_law_x443 xs L l9 l10 l11 l12 l16 l17 l19 x9) (seqF (fun s9 => Option.bind (lp (l_law_L139 xs L) n139 s9) (fun x9 => Option.bind (l_law_x139 xs L x9) some)) (fun x9 => Option.bind (l_law_x139 xs L x9) some)))) (fun x9 => Option.bind (l_law_x443 xs L l9 l10 l11 l12 l16 l17 l19 x9) (seqF (fun s9 => Option.bind (lp (l_law_L139 xs L) n139 s9) (fun x9 => Option.bind (l_law_x139 xs L x9) some)) (fun x9 => Option.bind (l_law_x139 xs L x9) some)))) = some z → W p l e R s m args below meth c H locs cl sl Q (F0 m 481 ls [.int t0, .int t1, .int t2, .ref (q 0)]) := by
            intro l21 t0 t1 t2 w cl sl hc hs H locs ls hl S h
            unfold l_law_b481 at h
            refine lv_imul hx hb dL_law_481 ?_
            refine lv_iadd hx hb dL_law_482 ?_
            refine lv_iload hx hb dL_law_483 (lv_at hl 13 rfl) ?_
            obtain ⟨g181, h⟩ := h_gd h
            refine lv_irem hx hb dL_law_485 (nz_of g181) ?_
            obtain ⟨x182, ex182, h⟩ := h_c h
            refine kl_i C S (w_S (rest := []) (As := [.ref (q 0), .int ((t2 + (t1 * t0)) - (t2 + (t1 * t0)) / l18 * l18)]) lw_164 hx hb hml C S (c_l_mark l hfl D dA q ((t2 + (t1 * t0)) - (t2 + (t1 * t0)) / l18 * l18) w x182.2 x182.1 ex182) ⟨Nat.le_trans (Nat.le_of_ble_eq_true rfl) hRf, Nat.le_trans (Nat.le_of_ble_eq_true rfl) hRl⟩ rfl hl.1 rfl (Nat.le_of_ble_eq_true rfl) dL_law_486 ⟨by omega, by omega⟩) (fun w183 ew183 H locs S => ?_)
            have h := h_l h w183 ew183
            refine lv_iload hx hb dL_law_489 (lv_at hl 15 rfl) ?_
            refine lv_iconst (v := 1) hx hb dL_law_491 (by decide) ?_
            refine lv_iadd hx hb dL_law_492 ?_
            refine lv_icmp_ne (tgt := 500) hx hb dL_law_493 rfl (fun c184 => ?_) (fun c184 => ?_)
            · have h := h_f c184 h
              refine lv_iconst (v := 0) hx hb dL_law_500 (by decide) ?_
              refine lv_istore (lv' := [(7, .int (0 : Int32)), (0, .ref bb), (1, .ref (q 0)), (2, .ref (q 72)), (3, .ref (q 73)), (4, .ref (q 74)), (5, .ref (q 75)), (6, .ref (q 76)), (9, .int l9), (10, .int l10), (11, .int l11), (12, .int l12), (16, .int l16), (17, .int l17), (18, .int l18), (19, .int l19), (21, .int l21)]) hx hb dL_law_501 hl (Nat.le_of_ble_eq_true rfl) rfl (fun ls hl => ?_)
              refine lv_iinc (v := (l21 + 1)) (lv' := [(21, .int (l21 + 1)), (7, .int (0 : Int32)), (0, .ref bb), (1, .ref (q 0)), (2, .ref (q 72)), (3, .ref (q 73)), (4, .ref (q 74)), (5, .ref (q 75)), (6, .ref (q 76)), (9, .int l9), (10, .int l10), (11, .int l11), (12, .int l12), (16, .int l16), (17, .int l17), (18, .int l18), (19, .int l19)]) hx hb dL_law_503 hl (k := 16) rfl rfl (Nat.le_of_ble_eq_true rfl) rfl (fun ls hl => ?_)
              refine lv_goto (tgt := 443) hx hb dL_law_506 rfl ?_
              exact ih443 (0 : Int32) (l21 + 1) w183 _ _ (by omega) (by omega) _ _ _ (lv_sub hl [2, 3, 4, 5, 6, 7, 8, 1, 9, 10, 11, 12, 13, 14, 15, 16, 0] rfl) S h
            · have h := h_t c184 h
              refine lv_iconst (v := 1) hx hb dL_law_496 (by decide) ?_
              refine lv_goto (tgt := 501) hx hb dL_law_497 rfl ?_
              refine lv_istore (lv' := [(7, .int (1 : Int32)), (0, .ref bb), (1, .ref (q 0)), (2, .ref (q 72)), (3, .ref (q 73)), (4, .ref (q 74)), (5, .ref (q 75)), (6, .ref (q 76)), (9, .int l9), (10, .int l10), (11, .int l11), (12, .int l12), (16, .int l16), (17, .int l17), (18, .int l18), (19, .int l19), (21, .int l21)]) hx hb dL_law_501 hl (Nat.le_of_ble_eq_true rfl) rfl (fun ls hl => ?_)
              refine lv_iinc (v := (l21 + 1)) (lv' := [(21, .int (l21 + 1)), (7, .int (1 : Int32)), (0, .ref bb), (1, .ref (q 0)), (2, .ref (q 72)), (3, .ref (q 73)), (4, .ref (q 74)), (5, .ref (q 75)), (6, .ref (q 76)), (9, .int l9), (10, .int l10), (11, .int l11), (12, .int l12), (16, .int l16), (17, .int l17), (18, .int l18), (19, .int l19)]) hx hb dL_law_503 hl (k := 16) rfl rfl (Nat.le_of_ble_eq_true rfl) rfl (fun ls hl => ?_)
              refine lv_goto (tgt := 443) hx hb dL_law_506 rfl ?_
              exact ih443 (1 : Int32) (l21 + 1) w183 _ _ (by omega) (by omega) _ _ _ (lv_sub hl [2, 3, 4, 5, 6, 7, 8, 1, 9, 10, 11, 12, 13, 14, 15, 16, 0] rfl) S h
          intro l7 l21 w cl sl hc hs H locs ls hl S h
          have h := h_lp h
          unfold l_law_L443 at h
          refine lv_iload hx hb dL_law_443 (lv_at hl 16 rfl) ?_
          refine lv_iload hx hb dL_law_445 (lv_at hl 15 rfl) ?_
          refine lv_icmp_ge (tgt := 509) hx hb dL_law_447 rfl (fun c185 => ?_) (fun c185 => ?_)
          · have h := h_t c185 h
            exact lab509 l7 l9 l10 l11 l12 l16 l17 l19 w _ _ (by omega) (by omega) _ _ _ (lv_sub hl [0, 1, 2, 3, 4, 5, 6, 7, 8, 9, 10, 11, 12, 13, 15] rfl) S h
          · have h := h_f c185 h
            refine lv_iload hx hb dL_law_450 (lv_at hl 7 rfl) ?_
            refine lv_if_eq (tgt := 509) hx hb dL_law_452 rfl (fun c186 => ?_) (fun c186 => ?_)
            · have h := h_t c186 h
              exact lab509 l7 l9 l10 l11 l12 l16 l17 l19 w _ _ (by omega) (by omega) _ _ _ (lv_sub hl [0, 1, 2, 3, 4, 5, 6, 7, 8, 9, 10, 11, 12, 13, 15] rfl) S h
            · have h := h_f c186 h
              refine lv_iload hx hb dL_law_455 (lv_at hl 9 rfl) ?_
              refine lv_bipush (v := 48) hx hb dL_law_457 (by decide) ?_
              refine lv_icmp_ge (tgt := 509) hx hb dL_law_459 rfl (fun c187 => ?_) (fun c187 => ?_)
              · have h := h_t c187 h
                exact lab509 l7 l9 l10 l11 l12 l16 l17 l19 w _ _ (by omega) (by omega) _ _ _ (lv_sub hl [0, 1, 2, 3, 4, 5, 6, 7, 8, 9, 10, 11, 12, 13, 15] rfl) S h
              · have h := h_f c187 h
                refine lv_aload_n hx hb dL_law_462 rfl (lv_at hl 1 rfl) ?_
                refine lv_iload hx hb dL_law_463 (lv_at hl 13 rfl) ?_
                refine lv_bipush (v := 7) hx hb dL_law_465 (by decide) ?_
                obtain ⟨g188, h⟩ := h_gd h
                refine lv_idiv hx hb dL_law_467 (nz_of g188) ?_
                refine lv_iload hx hb dL_law_468 (lv_at hl 16 rfl) ?_
                refine lv_iload hx hb dL_law_470 (lv_at hl 14 rfl) ?_
                refine lv_iconst (v := 5) hx hb dL_law_472 (by decide) ?_
                refine lv_icmp_ne (tgt := 480) hx hb dL_law_473 rfl (fun c189 => ?_) (fun c189 => ?_)
                · have h := h_f c189 h
                  refine lv_iconst (v := 1) hx hb dL_law_480 (by decide) ?_
                  exact lab481 l21 (1 : Int32) l21 (l17 / (7 : Int32)) w _ _ (by omega) (by omega) _ _ _ (lv_sub hl [0, 1, 2, 3, 4, 5, 6, 8, 9, 10, 11, 12, 13, 14, 15, 16] rfl) S h
                · have h := h_t c189 h
                  refine lv_iconst (v := 2) hx hb dL_law_476 (by decide) ?_
                  refine lv_goto (tgt := 481) hx hb dL_law_477 rfl ?_
                  exact lab481 l21 (2 : Int32) l21 (l17 / (7 : Int32)) w _ _ (by omega) (by omega) _ _ _ (lv_sub hl [0, 1, 2, 3, 4, 5, 6, 8, 9, 10, 11, 12, 13, 14, 15, 16] rfl) S h
      have lab409 : ∀ (l7 : Int32) (l9 : Int32) (l10 : Int32) (l12 : Int32) (l16 : Int32) (t0 : Int32) (t1 : Int32) (w : Wt) (cl sl : Nat) (hc : cl + (1176 + (n139 * 1572)) ≤ 81604) (hs : sl + 6 * (1176 + (n139 * 1572)) ≤ 489624) (H : Heap) (locs : List Loc) (ls : Array Slot), lv_has ls 22 [(0, .ref bb), (1, .ref (q 0)), (2, .ref (q 72)), (3, .ref (q 73)), (4, .ref (q 74)), (5, .ref (q 75)), (6, .ref (q 76)), (7, .int l7), (9, .int l9), (10, .int l10), (12, .int l12), (16, .int l16)] → Sta KL D dA q A s.heap w H locs → Option.bind (l_law_b409 xs L l7 l9 l10 l12 l16 t0 t1 w) (seqF (fun s9 => Option.bind (lp (l_law_L139 xs L) n139 s9) (fun x9 => Option.bind (l_law_x139 xs L x9) some)) (fun x9 => Option.bind (l_law_x139 xs L x9) some)) = some z → W p l e R s m args below meth c H locs cl sl Q (F0 m 409 ls [.int t0, .int t1]) := by
        intro l7 l9 l10 l12 l16 t0 t1 w cl sl hc hs H locs ls hl S h
        unfold l_law_b409 at h
        refine lv_iadd hx hb dL_law_409 ?_
        refine lv_topi (fun v190 ev190 => ?_)
        have h := h_l h v190 ev190
        refine lv_istore (lv' := [(11, .int v190), (0, .ref bb), (1, .ref (q 0)), (2, .ref (q 72)), (3, .ref (q 73)), (4, .ref (q 74)), (5, .ref (q 75)), (6, .ref (q 76)), (7, .int l7), (9, .int l9), (10, .int l10), (12, .int l12), (16, .int l16)]) hx hb dL_law_410 hl (Nat.le_of_ble_eq_true rfl) rfl (fun ls hl => ?_)
        refine lv_goto (tgt := 1428) hx hb dL_law_412 rfl ?_
        exact lab1428 l7 l9 l10 v190 l12 l16 w _ _ (by omega) (by omega) _ _ _ (lv_sub hl [1, 2, 3, 4, 5, 6, 7, 8, 9, 10, 0, 11, 12] rfl) S h
      have lab395 : ∀ (l9 : Int32) (l10 : Int32) (l11 : Int32) (l12 : Int32) (l16 : Int32) (l18 : Int32) (t0 : Int32) (w : Wt) (cl sl : Nat) (hc : cl + (1176 + (n139 * 1572)) ≤ 81604) (hs : sl + 6 * (1176 + (n139 * 1572)) ≤ 489624) (H : Heap) (locs : List Loc) (ls : Array Slot), lv_has ls 22 [(0, .ref bb), (1, .ref (q 0)), (2, .ref (q 72)), (3, .ref (q 73)), (4, .ref (q 74)), (5, .ref (q 75)), (6, .ref (q 76)), (9, .int l9), (10, .int l10), (11, .int l11), (12, .int l12), (16, .int l16), (18, .int l18)] → Sta KL D dA q A s.heap w H locs → Option.bind (l_law_b395 xs L l9 l10 l11 l12 l16 l18 t0 w) (seqF (fun s9 => Option.bind (lp (l_law_L139 xs L) n139 s9) (fun x9 => Option.bind (l_law_x139 xs L x9) some)) (fun x9 => Option.bind (l_law_x139 xs L x9) some)) = some z → W p l e R s m args below meth c H locs cl sl Q (F0 m 395 ls [.int t0]) := by
        intro l9 l10 l11 l12 l16 l18 t0 w cl sl hc hs H locs ls hl S h
        unfold l_law_b395 at h
        refine lv_istore (lv' := [(7, .int t0), (0, .ref bb), (1, .ref (q 0)), (2, .ref (q 72)), (3, .ref (q 73)), (4, .ref (q 74)), (5, .ref (q 75)), (6, .ref (q 76)), (9, .int l9), (10, .int l10), (11, .int l11), (12, .int l12), (16, .int l16), (18, .int l18)]) hx hb dL_law_395 hl (Nat.le_of_ble_eq_true rfl) rfl (fun ls hl => ?_)
        refine lv_iload hx hb dL_law_397 (lv_at hl 10 rfl) ?_
        refine lv_iload hx hb dL_law_399 (lv_at hl 13 rfl) ?_
        refine lv_if_eq (tgt := 408) hx hb dL_law_401 rfl (fun c191 => ?_) (fun c191 => ?_)
        · have h := h_t c191 h
          refine lv_iconst (v := 0) hx hb dL_law_408 (by decide) ?_
          exact lab409 t0 l9 l10 l12 l16 (0 : Int32) l11 w _ _ (by omega) (by omega) _ _ _ (lv_sub hl [1, 2, 3, 4, 5, 6, 7, 0, 8, 9, 11, 12] rfl) S h
        · have h := h_f c191 h
          refine lv_iconst (v := 1) hx hb dL_law_404 (by decide) ?_
          refine lv_goto (tgt := 409) hx hb dL_law_405 rfl ?_
          exact lab409 t0 l9 l10 l12 l16 (1 : Int32) l11 w _ _ (by omega) (by omega) _ _ _ (lv_sub hl [1, 2, 3, 4, 5, 6, 7, 0, 8, 9, 11, 12] rfl) S h
      have lab394 : ∀ (l9 : Int32) (l10 : Int32) (l11 : Int32) (l12 : Int32) (l16 : Int32) (l18 : Int32) (w : Wt) (cl sl : Nat) (hc : cl + (1176 + (n139 * 1572)) ≤ 81604) (hs : sl + 6 * (1176 + (n139 * 1572)) ≤ 489624) (H : Heap) (locs : List Loc) (ls : Array Slot), lv_has ls 22 [(0, .ref bb), (1, .ref (q 0)), (2, .ref (q 72)), (3, .ref (q 73)), (4, .ref (q 74)), (5, .ref (q 75)), (6, .ref (q 76)), (9, .int l9), (10, .int l10), (11, .int l11), (12, .int l12), (16, .int l16), (18, .int l18)] → Sta KL D dA q A s.heap w H locs → Option.bind (l_law_b394 xs L l9 l10 l11 l12 l16 l18 w) (seqF (fun s9 => Option.bind (lp (l_law_L139 xs L) n139 s9) (fun x9 => Option.bind (l_law_x139 xs L x9) some)) (fun x9 => Option.bind (l_law_x139 xs L x9) some)) = some z → W p l e R s m args below meth c H locs cl sl Q (F0 m 394 ls []) := by
        intro l9 l10 l11 l12 l16 l18 w cl sl hc hs H locs ls hl S h
        unfold l_law_b394 at h
        refine lv_iconst (v := 0) hx hb dL_law_394 (by decide) ?_
        exact lab395 l9 l10 l11 l12 l16 l18 (0 : Int32) w _ _ (by omega) (by omega) _ _ _ (lv_sub hl [0, 1, 2, 3, 4, 5, 6, 7, 8, 9, 10, 11, 12] rfl) S h
      have lab366 : ∀ (l9 : Int32) (l10 : Int32) (l11 : Int32) (l12 : Int32) (l16 : Int32) (l17 : Int32) (l18 : Int32) (t0 : Int32) (t1 : Int32) (w : Wt) (cl sl : Nat) (hc : cl + (1180 + (n139 * 1572)) ≤ 81604) (hs : sl + 6 * (1180 + (n139 * 1572)) ≤ 489624) (H : Heap) (locs : List Loc) (ls : Array Slot), lv_has ls 22 [(0, .ref bb), (1, .ref (q 0)), (2, .ref (q 72)), (3, .ref (q 73)), (4, .ref (q 74)), (5, .ref (q 75)), (6, .ref (q 76)), (9, .int l9), (10, .int l10), (11, .int l11), (12, .int l12), (16, .int l16), (17, .int l17), (18, .int l18)] → Sta KL D dA q A s.heap w H locs → Option.bind (l_law_b366 xs L l9 l10 l11 l12 l16 l17 l18 t0 t1 w) (seqF (fun s9 => Option.bind (lp (l_law_L139 xs L) n139 s9) (fun x9 => Option.bind (l_law_x139 xs L x9) some)) (fun x9 => Option.bind (l_law_x139 xs L x9) some)) = some z → W p l e R s m args below meth c H locs cl sl Q (F0 m 366 ls [.int t0, .int t1]) := by
        intro l9 l10 l11 l12 l16 l17 l18 t0 t1 w cl sl hc hs H locs ls hl S h
        unfold l_law_b366 at h
        refine lv_icmp_ne (tgt := 394) hx hb dL_law_366 rfl (fun c192 => ?_) (fun c192 => ?_)
        · have h := h_f c192 h
          exact lab394 l9 l10 l11 l12 l16 l18 w _ _ (by omega) (by omega) _ _ _ (lv_sub hl [0, 1, 2, 3, 4, 5, 6, 7, 8, 9, 10, 11, 13] rfl) S h
        · have h := h_t c192 h
          refine lv_aload_n hx hb dL_law_369 rfl (lv_at hl 1 rfl) ?_
          refine lv_iload hx hb dL_law_370 (lv_at hl 12 rfl) ?_
          refine lv_iconst (v := 3) hx hb dL_law_372 (by decide) ?_
          obtain ⟨g193, h⟩ := h_gd h
          refine lv_irem hx hb dL_law_373 (nz_of g193) ?_
          refine lv_iload hx hb dL_law_374 (lv_at hl 12 rfl) ?_
          refine lv_iconst (v := 3) hx hb dL_law_376 (by decide) ?_
          obtain ⟨g194, h⟩ := h_gd h
          refine lv_idiv hx hb dL_law_377 (nz_of g194) ?_
          refine lv_bipush (v := 8) hx hb dL_law_378 (by decide) ?_
          obtain ⟨g195, h⟩ := h_gd h
          refine lv_irem hx hb dL_law_380 (nz_of g195) ?_
          refine lv_bipush (v := 50) hx hb dL_law_381 (by decide) ?_
          obtain ⟨x196, ex196, h⟩ := h_c h
          refine kl_i0 C S (w_S (rest := []) (As := [.ref (q 0), .int (l17 - l17 / (3 : Int32) * (3 : Int32)), .int ((l17 / (3 : Int32)) - (l17 / (3 : Int32)) / (8 : Int32) * (8 : Int32)), .int (50 : Int32)]) lw_161 hx hb hml C S (c_l_allowed l hfl D dA q (l17 - l17 / (3 : Int32) * (3 : Int32)) ((l17 / (3 : Int32)) - (l17 / (3 : Int32)) / (8 : Int32) * (8 : Int32)) (50 : Int32) w x196 ex196) ⟨Nat.le_trans (Nat.le_of_ble_eq_true rfl) hRf, Nat.le_trans (Nat.le_of_ble_eq_true rfl) hRl⟩ rfl hl.1 rfl (Nat.le_of_ble_eq_true rfl) dL_law_383 ⟨by omega, by omega⟩) (fun H locs S => ?_)
          refine lv_iconst (v := 1) hx hb dL_law_386 (by decide) ?_
          refine lv_icmp_ne (tgt := 394) hx hb dL_law_387 rfl (fun c197 => ?_) (fun c197 => ?_)
          · have h := h_f c197 h
            exact lab394 l9 l10 l11 l12 l16 l18 w _ _ (by omega) (by omega) _ _ _ (lv_sub hl [0, 1, 2, 3, 4, 5, 6, 7, 8, 9, 10, 11, 13] rfl) S h
          · have h := h_t c197 h
            refine lv_iconst (v := 1) hx hb dL_law_390 (by decide) ?_
            refine lv_goto (tgt := 395) hx hb dL_law_391 rfl ?_
            exact lab395 l9 l10 l11 l12 l16 l18 (1 : Int32) w _ _ (by omega) (by omega) _ _ _ (lv_sub hl [0, 1, 2, 3, 4, 5, 6, 7, 8, 9, 10, 11, 13] rfl) S h
      have lab316 : ∀ (l9 : Int32) (l10 : Int32) (l11 : Int32) (l12 : Int32) (l16 : Int32) (l17 : Int32) (t0 : Int32) (w : Wt) (cl sl : Nat) (hc : cl + (1184 + (n139 * 1572)) ≤ 81604) (hs : sl + 6 * (1184 + (n139 * 1572)) ≤ 489624) (H : Heap) (locs : List Loc) (ls : Array Slot), lv_has ls 22 [(0, .ref bb), (1, .ref (q 0)), (2, .ref (q 72)), (3, .ref (q 73)), (4, .ref (q 74)), (5, .ref (q 75)), (6, .ref (q 76)), (9, .int l9), (10, .int l10), (11, .int l11), (12, .int l12), (16, .int l16), (17, .int l17)] → Sta KL D dA q A s.heap w H locs → Option.bind (l_law_b316 xs L l9 l10 l11 l12 l16 l17 t0 w) (seqF (fun s9 => Option.bind (lp (l_law_L139 xs L) n139 s9) (fun x9 => Option.bind (l_law_x139 xs L x9) some)) (fun x9 => Option.bind (l_law_x139 xs L x9) some)) = some z → W p l e R s m args below meth c H locs cl sl Q (F0 m 316 ls [.int t0]) := by
        intro l9 l10 l11 l12 l16 l17 t0 w cl sl hc hs H locs ls hl S h
        unfold l_law_b316 at h
        refine lv_istore (lv' := [(18, .int t0), (0, .ref bb), (1, .ref (q 0)), (2, .ref (q 72)), (3, .ref (q 73)), (4, .ref (q 74)), (5, .ref (q 75)), (6, .ref (q 76)), (9, .int l9), (10, .int l10), (11, .int l11), (12, .int l12), (16, .int l16), (17, .int l17)]) hx hb dL_law_316 hl (Nat.le_of_ble_eq_true rfl) rfl (fun ls hl => ?_)
        refine lv_aload_n hx hb dL_law_318 rfl (lv_at hl 2 rfl) ?_
        refine lv_iload hx hb dL_law_319 (lv_at hl 13 rfl) ?_
        refine lv_iconst (v := 3) hx hb dL_law_321 (by decide) ?_
        obtain ⟨g198, h⟩ := h_gd h
        refine lv_irem hx hb dL_law_322 (nz_of g198) ?_
        refine lv_iload hx hb dL_law_323 (lv_at hl 13 rfl) ?_
        refine lv_iconst (v := 3) hx hb dL_law_325 (by decide) ?_
        obtain ⟨g199, h⟩ := h_gd h
        refine lv_idiv hx hb dL_law_326 (nz_of g199) ?_
        refine lv_bipush (v := 8) hx hb dL_law_327 (by decide) ?_
        obtain ⟨g200, h⟩ := h_gd h
        refine lv_irem hx hb dL_law_329 (nz_of g200) ?_
        refine lv_iload hx hb dL_law_330 (lv_at hl 13 rfl) ?_
        refine lv_bipush (v := 24) hx hb dL_law_332 (by decide) ?_
        obtain ⟨g201, h⟩ := h_gd h
        refine lv_idiv hx hb dL_law_334 (nz_of g201) ?_
        refine lv_bipush (v := 50) hx hb dL_law_335 (by decide) ?_
        obtain ⟨g202, h⟩ := h_gd h
        refine lv_irem hx hb dL_law_337 (nz_of g202) ?_
        refine lv_bipush (v := 50) hx hb dL_law_338 (by decide) ?_
        refine lv_iload hx hb dL_law_340 (lv_at hl 13 rfl) ?_
        refine lv_sipush (v := 1200) hx hb dL_law_342 (by decide) ?_
        obtain ⟨g203, h⟩ := h_gd h
        refine lv_idiv hx hb dL_law_345 (nz_of g203) ?_
        refine lv_sipush (v := 900) hx hb dL_law_346 (by decide) ?_
        obtain ⟨g204, h⟩ := h_gd h
        refine lv_irem hx hb dL_law_349 (nz_of g204) ?_
        refine lv_iadd hx hb dL_law_350 ?_
        obtain ⟨x205, ex205, h⟩ := h_c h
        refine kl_i C S (w_S (rest := []) (As := [.ref (q 0), .int (l17 - l17 / (3 : Int32) * (3 : Int32)), .int ((l17 / (3 : Int32)) - (l17 / (3 : Int32)) / (8 : Int32) * (8 : Int32)), .int ((l17 / (24 : Int32)) - (l17 / (24 : Int32)) / (50 : Int32) * (50 : Int32)), .int ((50 : Int32) + ((l17 / (1200 : Int32)) - (l17 / (1200 : Int32)) / (900 : Int32) * (900 : Int32)))]) lw_159 hx hb hml C S (c_l_enter l hfl D dA q (l17 - l17 / (3 : Int32) * (3 : Int32)) ((l17 / (3 : Int32)) - (l17 / (3 : Int32)) / (8 : Int32) * (8 : Int32)) ((l17 / (24 : Int32)) - (l17 / (24 : Int32)) / (50 : Int32) * (50 : Int32)) ((50 : Int32) + ((l17 / (1200 : Int32)) - (l17 / (1200 : Int32)) / (900 : Int32) * (900 : Int32))) w x205.2 x205.1 ex205) ⟨Nat.le_trans (Nat.le_of_ble_eq_true rfl) hRf, Nat.le_trans (Nat.le_of_ble_eq_true rfl) hRl⟩ rfl hl.1 rfl (Nat.le_of_ble_eq_true rfl) dL_law_351 ⟨by omega, by omega⟩) (fun w206 ew206 H locs S => ?_)
        have h := h_l h w206 ew206
        refine lv_iload hx hb dL_law_354 (lv_at hl 0 rfl) ?_
        refine lv_if_eq (tgt := 364) hx hb dL_law_356 rfl (fun c207 => ?_) (fun c207 => ?_)
        · have h := h_t c207 h
          refine lv_bipush (v := -103) hx hb dL_law_364 (by decide) ?_
          exact lab366 l9 l10 l11 l12 l16 l17 t0 (-103 : Int32) x205.1 w206 _ _ (by omega) (by omega) _ _ _ (lv_sub hl [1, 2, 3, 4, 5, 6, 7, 8, 9, 10, 11, 12, 13, 0] rfl) S h
        · have h := h_f c207 h
          refine lv_iload hx hb dL_law_359 (lv_at hl 10 rfl) ?_
          refine lv_goto (tgt := 366) hx hb dL_law_361 rfl ?_
          exact lab366 l9 l10 l11 l12 l16 l17 t0 l11 x205.1 w206 _ _ (by omega) (by omega) _ _ _ (lv_sub hl [1, 2, 3, 4, 5, 6, 7, 8, 9, 10, 11, 12, 13, 0] rfl) S h
      have lab298 : ∀ (l7 : Int32) (l9 : Int32) (l10 : Int32) (l11 : Int32) (l12 : Int32) (l15 : Int32) (l16 : Int32) (l17 : Int32) (w : Wt) (cl sl : Nat) (hc : cl + (1572 + (n139 * 1572)) ≤ 81604) (hs : sl + 6 * (1572 + (n139 * 1572)) ≤ 489624) (H : Heap) (locs : List Loc) (ls : Array Slot), lv_has ls 22 [(0, .ref bb), (1, .ref (q 0)), (2, .ref (q 72)), (3, .ref (q 73)), (4, .ref (q 74)), (5, .ref (q 75)), (6, .ref (q 76)), (7, .int l7), (9, .int l9), (10, .int l10), (11, .int l11), (12, .int l12), (15, .int l15), (16, .int l16), (17, .int l17)] → Sta KL D dA q A s.heap w H locs → Option.bind (l_law_b298 xs L l7 l9 l10 l11 l12 l15 l16 l17 w) (seqF (fun s9 => Option.bind (lp (l_law_L139 xs L) n139 s9) (fun x9 => Option.bind (l_law_x139 xs L x9) some)) (fun x9 => Option.bind (l_law_x139 xs L x9) some)) = some z → W p l e R s m args below meth c H locs cl sl Q (F0 m 298 ls []) := by
        intro l7 l9 l10 l11 l12 l15 l16 l17 w cl sl hc hs H locs ls hl S h
        unfold l_law_b298 at h
        refine lv_iload hx hb dL_law_298 (lv_at hl 12 rfl) ?_
        refine lv_iconst (v := 4) hx hb dL_law_300 (by decide) ?_
        refine lv_icmp_ge (tgt := 415) hx hb dL_law_301 rfl (fun c208 => ?_) (fun c208 => ?_)
        · have h := h_t c208 h
          refine lv_iload hx hb dL_law_415 (lv_at hl 12 rfl) ?_
          refine lv_bipush (v := 9) hx hb dL_law_417 (by decide) ?_
          refine lv_icmp_ge (tgt := 782) hx hb dL_law_419 rfl (fun c209 => ?_) (fun c209 => ?_)
          · have h := h_t c209 h
            refine lv_iload hx hb dL_law_782 (lv_at hl 12 rfl) ?_
            refine lv_bipush (v := 9) hx hb dL_law_784 (by decide) ?_
            refine lv_icmp_ne (tgt := 813) hx hb dL_law_786 rfl (fun c210 => ?_) (fun c210 => ?_)
            · have h := h_f c210 h
              refine lv_iload hx hb dL_law_813 (lv_at hl 12 rfl) ?_
              refine lv_bipush (v := 10) hx hb dL_law_815 (by decide) ?_
              refine lv_icmp_ne (tgt := 956) hx hb dL_law_817 rfl (fun c211 => ?_) (fun c211 => ?_)
              · have h := h_f c211 h
                refine lv_iload hx hb dL_law_956 (lv_at hl 12 rfl) ?_
                refine lv_bipush (v := 11) hx hb dL_law_958 (by decide) ?_
                refine lv_icmp_ne (tgt := 1071) hx hb dL_law_960 rfl (fun c212 => ?_) (fun c212 => ?_)
                · have h := h_f c212 h
                  exact lab1071 l9 l10 l11 l12 l15 l16 l17 w _ _ (by omega) (by omega) _ _ _ (lv_sub hl [0, 1, 2, 3, 4, 5, 6, 8, 9, 10, 11, 12, 13, 14] rfl) S h
                · have h := h_t c212 h
                  refine lv_iload hx hb dL_law_963 (lv_at hl 9 rfl) ?_
                  refine lv_if_le (tgt := 1071) hx hb dL_law_965 rfl (fun c213 => ?_) (fun c213 => ?_)
                  · have h := h_t c213 h
                    exact lab1071 l9 l10 l11 l12 l15 l16 l17 w _ _ (by omega) (by omega) _ _ _ (lv_sub hl [0, 1, 2, 3, 4, 5, 6, 8, 9, 10, 11, 12, 13, 14] rfl) S h
                  · have h := h_f c213 h
                    refine lv_iload hx hb dL_law_968 (lv_at hl 14 rfl) ?_
                    refine lv_iload hx hb dL_law_970 (lv_at hl 9 rfl) ?_
                    obtain ⟨g214, h⟩ := h_gd h
                    refine lv_irem hx hb dL_law_972 (nz_of g214) ?_
                    refine lv_topi (fun v215 ev215 => ?_)
                    have h := h_l h v215 ev215
                    refine lv_istore (lv' := [(18, .int v215), (0, .ref bb), (1, .ref (q 0)), (2, .ref (q 72)), (3, .ref (q 73)), (4, .ref (q 74)), (5, .ref (q 75)), (6, .ref (q 76)), (7, .int l7), (9, .int l9), (10, .int l10), (11, .int l11), (12, .int l12), (15, .int l15), (16, .int l16), (17, .int l17)]) hx hb dL_law_973 hl (Nat.le_of_ble_eq_true rfl) rfl (fun ls hl => ?_)
                    refine lv_aload_n hx hb dL_law_975 rfl (lv_at hl 2 rfl) ?_
                    refine lv_iload hx hb dL_law_976 (lv_at hl 0 rfl) ?_
                    refine lv_iconst (v := 0) hx hb dL_law_978 (by decide) ?_
                    obtain ⟨x216, ex216, h⟩ := h_c h
                    refine kl_i0 C S (w_S (rest := []) (As := [.ref (q 0), .int v215, .int (0 : Int32)]) lw_172 hx hb hml C S (c_l_read l hfl D dA q v215 (0 : Int32) w x216 ex216) ⟨Nat.le_trans (Nat.le_of_ble_eq_true rfl) hRf, Nat.le_trans (Nat.le_of_ble_eq_true rfl) hRl⟩ rfl hl.1 rfl (Nat.le_of_ble_eq_true rfl) dL_law_979 ⟨by omega, by omega⟩) (fun H locs S => ?_)
                    refine lv_istore (lv' := [(19, .int x216), (18, .int v215), (0, .ref bb), (1, .ref (q 0)), (2, .ref (q 72)), (3, .ref (q 73)), (4, .ref (q 74)), (5, .ref (q 75)), (6, .ref (q 76)), (7, .int l7), (9, .int l9), (10, .int l10), (11, .int l11), (12, .int l12), (15, .int l15), (16, .int l16), (17, .int l17)]) hx hb dL_law_982 hl (Nat.le_of_ble_eq_true rfl) rfl (fun ls hl => ?_)
                    refine lv_aload_n hx hb dL_law_984 rfl (lv_at hl 3 rfl) ?_
                    refine lv_iload hx hb dL_law_985 (lv_at hl 1 rfl) ?_
                    refine lv_iconst (v := 1) hx hb dL_law_987 (by decide) ?_
                    obtain ⟨x217, ex217, h⟩ := h_c h
                    refine kl_i0 C S (w_S (rest := []) (As := [.ref (q 0), .int v215, .int (1 : Int32)]) lw_172 hx hb hml C S (c_l_read l hfl D dA q v215 (1 : Int32) w x217 ex217) ⟨Nat.le_trans (Nat.le_of_ble_eq_true rfl) hRf, Nat.le_trans (Nat.le_of_ble_eq_true rfl) hRl⟩ rfl hl.1 rfl (Nat.le_of_ble_eq_true rfl) dL_law_988 ⟨by omega, by omega⟩) (fun H locs S => ?_)
                    refine lv_istore (lv' := [(20, .int x217), (19, .int x216), (18, .int v215), (0, .ref bb), (1, .ref (q 0)), (2, .ref (q 72)), (3, .ref (q 73)), (4, .ref (q 74)), (5, .ref (q 75)), (6, .ref (q 76)), (7, .int l7), (9, .int l9), (10, .int l10), (11, .int l11), (12, .int l12), (15, .int l15), (16, .int l16), (17, .int l17)]) hx hb dL_law_991 hl (Nat.le_of_ble_eq_true rfl) rfl (fun ls hl => ?_)
                    refine lv_aload_n hx hb dL_law_993 rfl (lv_at hl 4 rfl) ?_
                    refine lv_iload hx hb dL_law_994 (lv_at hl 2 rfl) ?_
                    obtain ⟨x218, ex218, h⟩ := h_c h
                    refine kl_i C S (w_S (rest := []) (As := [.ref (q 0), .int v215]) lw_178 hx hb hml C S (c_l_misread l hfl D dA q v215 w x218.2 x218.1 ex218) ⟨Nat.le_trans (Nat.le_of_ble_eq_true rfl) hRf, Nat.le_trans (Nat.le_of_ble_eq_true rfl) hRl⟩ rfl hl.1 rfl (Nat.le_of_ble_eq_true rfl) dL_law_996 ⟨by omega, by omega⟩) (fun w219 ew219 H locs S => ?_)
                    have h := h_l h w219 ew219
                    refine lv_topi (fun v220 ev220 => ?_)
                    have h := h_l h v220 ev220
                    refine lv_istore (lv' := [(21, .int v220), (20, .int x217), (19, .int x216), (18, .int v215), (0, .ref bb), (1, .ref (q 0)), (2, .ref (q 72)), (3, .ref (q 73)), (4, .ref (q 74)), (5, .ref (q 75)), (6, .ref (q 76)), (7, .int l7), (9, .int l9), (10, .int l10), (11, .int l11), (12, .int l12), (15, .int l15), (16, .int l16), (17, .int l17)]) hx hb dL_law_999 hl (Nat.le_of_ble_eq_true rfl) rfl (fun ls hl => ?_)
                    refine lv_iload hx hb dL_law_1001 (lv_at hl 0 rfl) ?_
                    refine lv_if_ne (tgt := 1054) hx hb dL_law_1003 rfl (fun c221 => ?_) (fun c221 => ?_)
                    · have h := h_f c221 h
                      refine lv_iload hx hb dL_law_1054 (lv_at hl 0 rfl) ?_
                      refine lv_bipush (v := -103) hx hb dL_law_1056 (by decide) ?_
                      refine lv_icmp_ne (tgt := 1065) hx hb dL_law_1058 rfl (fun c222 => ?_) (fun c222 => ?_)
                      · have h := h_f c222 h
                        refine lv_iconst (v := 0) hx hb dL_law_1065 (by decide) ?_
                        exact lab1066 l9 l10 l11 l12 l16 (0 : Int32) w219 _ _ (by omega) (by omega) _ _ _ (lv_sub hl [4, 5, 6, 7, 8, 9, 10, 12, 13, 14, 15, 17] rfl) S h
                      · have h := h_t c222 h
                        refine lv_iconst (v := 1) hx hb dL_law_1061 (by decide) ?_
                        refine lv_goto (tgt := 1066) hx hb dL_law_1062 rfl ?_
                        exact lab1066 l9 l10 l11 l12 l16 (1 : Int32) w219 _ _ (by omega) (by omega) _ _ _ (lv_sub hl [4, 5, 6, 7, 8, 9, 10, 12, 13, 14, 15, 17] rfl) S h
                    · have h := h_t c221 h
                      refine lv_aload_n hx hb dL_law_1006 rfl (lv_at hl 5 rfl) ?_
                      refine lv_iload hx hb dL_law_1007 (lv_at hl 3 rfl) ?_
                      refine lv_iconst (v := 0) hx hb dL_law_1009 (by decide) ?_
                      obtain ⟨x223, ex223, h⟩ := h_c h
                      refine kl_i0 C S (w_S (rest := []) (As := [.ref (q 0), .int v215, .int (0 : Int32)]) lw_172 hx hb hml C S (c_l_read l hfl D dA q v215 (0 : Int32) w219 x223 ex223) ⟨Nat.le_trans (Nat.le_of_ble_eq_true rfl) hRf, Nat.le_trans (Nat.le_of_ble_eq_true rfl) hRl⟩ rfl hl.1 rfl (Nat.le_of_ble_eq_true rfl) dL_law_1010 ⟨by omega, by omega⟩) (fun H locs S => ?_)
                      refine lv_iload hx hb dL_law_1013 (lv_at hl 1 rfl) ?_
                      refine lv_icmp_ne (tgt := 1050) hx hb dL_law_1015 rfl (fun c224 => ?_) (fun c224 => ?_)
                      · have h := h_f c224 h
                        exact lab1050 l9 l10 l11 l12 l16 w219 _ _ (by omega) (by omega) _ _ _ (lv_sub hl [4, 5, 6, 7, 8, 9, 10, 12, 13, 14, 15, 17] rfl) S h
                      · have h := h_t c224 h
                        refine lv_aload_n hx hb dL_law_1018 rfl (lv_at hl 5 rfl) ?_
                        refine lv_iload hx hb dL_law_1019 (lv_at hl 3 rfl) ?_
                        refine lv_iconst (v := 1) hx hb dL_law_1021 (by decide) ?_
                        obtain ⟨x225, ex225, h⟩ := h_c h
                        refine kl_i0 C S (w_S (rest := []) (As := [.ref (q 0), .int v215, .int (1 : Int32)]) lw_172 hx hb hml C S (c_l_read l hfl D dA q v215 (1 : Int32) w219 x225 ex225) ⟨Nat.le_trans (Nat.le_of_ble_eq_true rfl) hRf, Nat.le_trans (Nat.le_of_ble_eq_true rfl) hRl⟩ rfl hl.1 rfl (Nat.le_of_ble_eq_true rfl) dL_law_1022 ⟨by omega, by omega⟩) (fun H locs S => ?_)
                        refine lv_iload hx hb dL_law_1025 (lv_at hl 2 rfl) ?_
                        refine lv_icmp_ne (tgt := 1050) hx hb dL_law_1027 rfl (fun c226 => ?_) (fun c226 => ?_)
                        · have h := h_f c226 h
                          exact lab1050 l9 l10 l11 l12 l16 w219 _ _ (by omega) (by omega) _ _ _ (lv_sub hl [4, 5, 6, 7, 8, 9, 10, 12, 13, 14, 15, 17] rfl) S h
                        · have h := h_t c226 h
                          refine lv_iload hx hb dL_law_1030 (lv_at hl 1 rfl) ?_
                          refine lv_if_lt (tgt := 1050) hx hb dL_law_1032 rfl (fun c227 => ?_) (fun c227 => ?_)
                          · have h := h_t c227 h
                            exact lab1050 l9 l10 l11 l12 l16 w219 _ _ (by omega) (by omega) _ _ _ (lv_sub hl [4, 5, 6, 7, 8, 9, 10, 12, 13, 14, 15, 17] rfl) S h
                          · have h := h_f c227 h
                            refine lv_aload_n hx hb dL_law_1035 rfl (lv_at hl 5 rfl) ?_
                            refine lv_iload hx hb dL_law_1036 (lv_at hl 3 rfl) ?_
                            obtain ⟨x228, ex228, h⟩ := h_c h
                            refine kl_i C S (w_S (rest := []) (As := [.ref (q 0), .int v215]) lw_178 hx hb hml C S (c_l_misread l hfl D dA q v215 w219 x228.2 x228.1 ex228) ⟨Nat.le_trans (Nat.le_of_ble_eq_true rfl) hRf, Nat.le_trans (Nat.le_of_ble_eq_true rfl) hRl⟩ rfl hl.1 rfl (Nat.le_of_ble_eq_true rfl) dL_law_1038 ⟨by omega, by omega⟩) (fun w229 ew229 H locs S => ?_)
                            have h := h_l h w229 ew229
                            refine lv_bipush (v := -103) hx hb dL_law_1041 (by decide) ?_
                            refine lv_icmp_ne (tgt := 1050) hx hb dL_law_1043 rfl (fun c230 => ?_) (fun c230 => ?_)
                            · have h := h_f c230 h
                              exact lab1050 l9 l10 l11 l12 l16 w229 _ _ (by omega) (by omega) _ _ _ (lv_sub hl [4, 5, 6, 7, 8, 9, 10, 12, 13, 14, 15, 17] rfl) S h
                            · have h := h_t c230 h
                              refine lv_iconst (v := 1) hx hb dL_law_1046 (by decide) ?_
                              refine lv_goto (tgt := 1066) hx hb dL_law_1047 rfl ?_
                              exact lab1066 l9 l10 l11 l12 l16 (1 : Int32) w229 _ _ (by omega) (by omega) _ _ _ (lv_sub hl [4, 5, 6, 7, 8, 9, 10, 12, 13, 14, 15, 17] rfl) S h
              · have h := h_t c211 h
                refine lv_iconst (v := 0) hx hb dL_law_820 (by decide) ?_
                refine lv_istore (lv' := [(18, .int (0 : Int32)), (0, .ref bb), (1, .ref (q 0)), (2, .ref (q 72)), (3, .ref (q 73)), (4, .ref (q 74)), (5, .ref (q 75)), (6, .ref (q 76)), (7, .int l7), (9, .int l9), (10, .int l10), (11, .int l11), (12, .int l12), (15, .int l15), (16, .int l16), (17, .int l17)]) hx hb dL_law_821 hl (Nat.le_of_ble_eq_true rfl) rfl (fun ls hl => ?_)
                refine lv_iconst (v := 0) hx hb dL_law_823 (by decide) ?_
                refine lv_istore (lv' := [(19, .int (0 : Int32)), (18, .int (0 : Int32)), (0, .ref bb), (1, .ref (q 0)), (2, .ref (q 72)), (3, .ref (q 73)), (4, .ref (q 74)), (5, .ref (q 75)), (6, .ref (q 76)), (7, .int l7), (9, .int l9), (10, .int l10), (11, .int l11), (12, .int l12), (15, .int l15), (16, .int l16), (17, .int l17)]) hx hb dL_law_824 hl (Nat.le_of_ble_eq_true rfl) rfl (fun ls hl => ?_)
                refine lv_iconst (v := 0) hx hb dL_law_826 (by decide) ?_
                refine lv_istore (lv' := [(20, .int (0 : Int32)), (19, .int (0 : Int32)), (18, .int (0 : Int32)), (0, .ref bb), (1, .ref (q 0)), (2, .ref (q 72)), (3, .ref (q 73)), (4, .ref (q 74)), (5, .ref (q 75)), (6, .ref (q 76)), (7, .int l7), (9, .int l9), (10, .int l10), (11, .int l11), (12, .int l12), (15, .int l15), (16, .int l16), (17, .int l17)]) hx hb dL_law_827 hl (Nat.le_of_ble_eq_true rfl) rfl (fun ls hl => ?_)
                exact loop829 l9 l10 l11 l12 l16 l17 (0 : Int32) w 49 (0 : Int32) (0 : Int32) _ _ (by omega) (by omega) _ _ _ (lv_sub hl [3, 4, 5, 6, 7, 8, 9, 11, 12, 13, 14, 16, 17, 2, 1, 0] rfl) S (h_bb h)
            · have h := h_t c210 h
              refine lv_aload_n hx hb dL_law_789 rfl (lv_at hl 1 rfl) ?_
              refine lv_iconst (v := 1) hx hb dL_law_790 (by decide) ?_
              refine lv_iload hx hb dL_law_791 (lv_at hl 14 rfl) ?_
              refine lv_bipush (v := 12) hx hb dL_law_793 (by decide) ?_
              obtain ⟨g231, h⟩ := h_gd h
              refine lv_irem hx hb dL_law_795 (nz_of g231) ?_
              refine lv_iadd hx hb dL_law_796 ?_
              obtain ⟨x232, ex232, h⟩ := h_c h
              refine kl_i C S (w_S (rest := []) (As := [.ref (q 0), .int ((1 : Int32) + (l17 - l17 / (12 : Int32) * (12 : Int32)))]) lw_174 hx hb hml C S (c_l_pass l hfl D dA q ((1 : Int32) + (l17 - l17 / (12 : Int32) * (12 : Int32))) w x232.2 x232.1 ex232) ⟨Nat.le_trans (Nat.le_of_ble_eq_true rfl) hRf, Nat.le_trans (Nat.le_of_ble_eq_true rfl) hRl⟩ rfl hl.1 rfl (Nat.le_of_ble_eq_true rfl) dL_law_797 ⟨by omega, by omega⟩) (fun w233 ew233 H locs S => ?_)
              have h := h_l h w233 ew233
              refine lv_if_le (tgt := 807) hx hb dL_law_800 rfl (fun c234 => ?_) (fun c234 => ?_)
              · have h := h_t c234 h
                refine lv_iconst (v := 0) hx hb dL_law_807 (by decide) ?_
                exact lab808 l9 l10 l11 l12 l16 (0 : Int32) w233 _ _ (by omega) (by omega) _ _ _ (lv_sub hl [0, 1, 2, 3, 4, 5, 6, 8, 9, 10, 11, 13] rfl) S h
              · have h := h_f c234 h
                refine lv_iconst (v := 1) hx hb dL_law_803 (by decide) ?_
                refine lv_goto (tgt := 808) hx hb dL_law_804 rfl ?_
                exact lab808 l9 l10 l11 l12 l16 (1 : Int32) w233 _ _ (by omega) (by omega) _ _ _ (lv_sub hl [0, 1, 2, 3, 4, 5, 6, 8, 9, 10, 11, 13] rfl) S h
          · have h := h_f c209 h
            refine lv_aload_n hx hb dL_law_422 rfl (lv_at hl 3 rfl) ?_
            refine lv_iload hx hb dL_law_423 (lv_at hl 13 rfl) ?_
            obtain ⟨g235, h⟩ := h_gd h
            refine r_iald hx hb C S KL_73 (h_in g235) dL_law_425 ?_
            refine lv_topi (fun v236 ev236 => ?_)
            have h := h_l h v236 ev236
            refine lv_istore (lv' := [(18, .int v236), (0, .ref bb), (1, .ref (q 0)), (2, .ref (q 72)), (3, .ref (q 73)), (4, .ref (q 74)), (5, .ref (q 75)), (6, .ref (q 76)), (7, .int l7), (9, .int l9), (10, .int l10), (11, .int l11), (12, .int l12), (15, .int l15), (16, .int l16), (17, .int l17)]) hx hb dL_law_426 hl (Nat.le_of_ble_eq_true rfl) rfl (fun ls hl => ?_)
            refine lv_iconst (v := 1) hx hb dL_law_428 (by decide) ?_
            refine lv_iload hx hb dL_law_429 (lv_at hl 15 rfl) ?_
            refine lv_iload hx hb dL_law_431 (lv_at hl 0 rfl) ?_
            obtain ⟨g237, h⟩ := h_gd h
            refine lv_irem hx hb dL_law_433 (nz_of g237) ?_
            refine lv_iadd hx hb dL_law_434 ?_
            refine lv_topi (fun v238 ev238 => ?_)
            have h := h_l h v238 ev238
            refine lv_istore (lv' := [(19, .int v238), (18, .int v236), (0, .ref bb), (1, .ref (q 0)), (2, .ref (q 72)), (3, .ref (q 73)), (4, .ref (q 74)), (5, .ref (q 75)), (6, .ref (q 76)), (7, .int l7), (9, .int l9), (10, .int l10), (11, .int l11), (12, .int l12), (15, .int l15), (16, .int l16), (17, .int l17)]) hx hb dL_law_435 hl (Nat.le_of_ble_eq_true rfl) rfl (fun ls hl => ?_)
            refine lv_iconst (v := 0) hx hb dL_law_437 (by decide) ?_
            refine lv_istore (lv' := [(20, .int (0 : Int32)), (19, .int v238), (18, .int v236), (0, .ref bb), (1, .ref (q 0)), (2, .ref (q 72)), (3, .ref (q 73)), (4, .ref (q 74)), (5, .ref (q 75)), (6, .ref (q 76)), (7, .int l7), (9, .int l9), (10, .int l10), (11, .int l11), (12, .int l12), (15, .int l15), (16, .int l16), (17, .int l17)]) hx hb dL_law_438 hl (Nat.le_of_ble_eq_true rfl) rfl (fun ls hl => ?_)
            refine lv_iconst (v := 0) hx hb dL_law_440 (by decide) ?_
            refine lv_istore (lv' := [(21, .int (0 : Int32)), (20, .int (0 : Int32)), (19, .int v238), (18, .int v236), (0, .ref bb), (1, .ref (q 0)), (2, .ref (q 72)), (3, .ref (q 73)), (4, .ref (q 74)), (5, .ref (q 75)), (6, .ref (q 76)), (7, .int l7), (9, .int l9), (10, .int l10), (11, .int l11), (12, .int l12), (15, .int l15), (16, .int l16), (17, .int l17)]) hx hb dL_law_441 hl (Nat.le_of_ble_eq_true rfl) rfl (fun ls hl => ?_)
            exact loop443 l9 l10 l11 l12 l16 l17 v236 v238 7 l7 (0 : Int32) w _ _ (by omega) (by omega) _ _ _ (lv_sub hl [4, 5, 6, 7, 8, 9, 10, 11, 12, 13, 14, 15, 17, 18, 3, 2, 0] rfl) S (h_bb h)
        · have h := h_f c208 h
          refine lv_iload hx hb dL_law_304 (lv_at hl 10 rfl) ?_
          refine lv_bipush (v := 60) hx hb dL_law_306 (by decide) ?_
          refine lv_icmp_ge (tgt := 315) hx hb dL_law_308 rfl (fun c239 => ?_) (fun c239 => ?_)
          · have h := h_t c239 h
            refine lv_iconst (v := 0) hx hb dL_law_315 (by decide) ?_
            exact lab316 l9 l10 l11 l12 l16 l17 (0 : Int32) w _ _ (by omega) (by omega) _ _ _ (lv_sub hl [0, 1, 2, 3, 4, 5, 6, 8, 9, 10, 11, 13, 14] rfl) S h
          · have h := h_f c239 h
            refine lv_iconst (v := 1) hx hb dL_law_311 (by decide) ?_
            refine lv_goto (tgt := 316) hx hb dL_law_312 rfl ?_
            exact lab316 l9 l10 l11 l12 l16 l17 (1 : Int32) w _ _ (by omega) (by omega) _ _ _ (lv_sub hl [0, 1, 2, 3, 4, 5, 6, 8, 9, 10, 11, 13, 14] rfl) S h
      have lab290 : ∀ (l9 : Int32) (l10 : Int32) (l11 : Int32) (l12 : Int32) (l16 : Int32) (t0 : Int32) (w : Wt) (cl sl : Nat) (hc : cl + (1176 + (n139 * 1572)) ≤ 81604) (hs : sl + 6 * (1176 + (n139 * 1572)) ≤ 489624) (H : Heap) (locs : List Loc) (ls : Array Slot), lv_has ls 22 [(0, .ref bb), (1, .ref (q 0)), (2, .ref (q 72)), (3, .ref (q 73)), (4, .ref (q 74)), (5, .ref (q 75)), (6, .ref (q 76)), (9, .int l9), (10, .int l10), (11, .int l11), (12, .int l12), (16, .int l16)] → Sta KL D dA q A s.heap w H locs → Option.bind (l_law_b290 xs L l9 l10 l11 l12 l16 t0 w) (seqF (fun s9 => Option.bind (lp (l_law_L139 xs L) n139 s9) (fun x9 => Option.bind (l_law_x139 xs L x9) some)) (fun x9 => Option.bind (l_law_x139 xs L x9) some)) = some z → W p l e R s m args below meth c H locs cl sl Q (F0 m 290 ls [.int t0]) := by
        intro l9 l10 l11 l12 l16 t0 w cl sl hc hs H locs ls hl S h
        unfold l_law_b290 at h
        refine lv_istore (lv' := [(7, .int t0), (0, .ref bb), (1, .ref (q 0)), (2, .ref (q 72)), (3, .ref (q 73)), (4, .ref (q 74)), (5, .ref (q 75)), (6, .ref (q 76)), (9, .int l9), (10, .int l10), (11, .int l11), (12, .int l12), (16, .int l16)]) hx hb dL_law_290 hl (Nat.le_of_ble_eq_true rfl) rfl (fun ls hl => ?_)
        refine lv_iinc (v := (l9 + 1)) (lv' := [(9, .int (l9 + 1)), (7, .int t0), (0, .ref bb), (1, .ref (q 0)), (2, .ref (q 72)), (3, .ref (q 73)), (4, .ref (q 74)), (5, .ref (q 75)), (6, .ref (q 76)), (10, .int l10), (11, .int l11), (12, .int l12), (16, .int l16)]) hx hb dL_law_292 hl (k := 8) rfl rfl (Nat.le_of_ble_eq_true rfl) rfl (fun ls hl => ?_)
        refine lv_goto (tgt := 1428) hx hb dL_law_295 rfl ?_
        exact lab1428 t0 (l9 + 1) l10 l11 l12 l16 w _ _ (by omega) (by omega) _ _ _ (lv_sub hl [2, 3, 4, 5, 6, 7, 8, 1, 0, 9, 10, 11, 12] rfl) S h
      have lab198 : ∀ (l7 : Int32) (l9 : Int32) (l10 : Int32) (l11 : Int32) (l12 : Int32) (l14 : Int32) (l15 : Int32) (t0 : Int32) (w : Wt) (cl sl : Nat) (hc : cl + (1572 + (n139 * 1572)) ≤ 81604) (hs : sl + 6 * (1572 + (n139 * 1572)) ≤ 489624) (H : Heap) (locs : List Loc) (ls : Array Slot), lv_has ls 22 [(0, .ref bb), (1, .ref (q 0)), (2, .ref (q 72)), (3, .ref (q 73)), (4, .ref (q 74)), (5, .ref (q 75)), (6, .ref (q 76)), (7, .int l7), (9, .int l9), (10, .int l10), (11, .int l11), (12, .int l12), (14, .int l14), (15, .int l15)] → Sta KL D dA q A s.heap w H locs → Option.bind (l_law_b198 xs L l7 l9 l10 l11 l12 l14 l15 t0 w) (seqF (fun s9 => Option.bind (lp (l_law_L139 xs L) n139 s9) (fun x9 => Option.bind (l_law_x139 xs L x9) some)) (fun x9 => Option.bind (l_law_x139 xs L x9) some)) = some z → W p l e R s m args below meth c H locs cl sl Q (F0 m 198 ls [.int t0]) := by
        intro l7 l9 l10 l11 l12 l14 l15 t0 w cl sl hc hs H locs ls hl S h
        unfold l_law_b198 at h
        refine lv_istore (lv' := [(16, .int t0), (0, .ref bb), (1, .ref (q 0)), (2, .ref (q 72)), (3, .ref (q 73)), (4, .ref (q 74)), (5, .ref (q 75)), (6, .ref (q 76)), (7, .int l7), (9, .int l9), (10, .int l10), (11, .int l11), (12, .int l12), (14, .int l14), (15, .int l15)]) hx hb dL_law_198 hl (Nat.le_of_ble_eq_true rfl) rfl (fun ls hl => ?_)
        refine lv_iload hx hb dL_law_200 (lv_at hl 13 rfl) ?_
        refine lv_bipush (v := 8) hx hb dL_law_202 (by decide) ?_
        obtain ⟨g240, h⟩ := h_gd h
        refine lv_idiv hx hb dL_law_204 (nz_of g240) ?_
        refine lv_topi (fun v241 ev241 => ?_)
        have h := h_l h v241 ev241
        refine lv_istore (lv' := [(17, .int v241), (16, .int t0), (0, .ref bb), (1, .ref (q 0)), (2, .ref (q 72)), (3, .ref (q 73)), (4, .ref (q 74)), (5, .ref (q 75)), (6, .ref (q 76)), (7, .int l7), (9, .int l9), (10, .int l10), (11, .int l11), (12, .int l12), (14, .int l14), (15, .int l15)]) hx hb dL_law_205 hl (Nat.le_of_ble_eq_true rfl) rfl (fun ls hl => ?_)
        refine lv_iload hx hb dL_law_207 (lv_at hl 15 rfl) ?_
        refine lv_if_ne (tgt := 298) hx hb dL_law_209 rfl (fun c242 => ?_) (fun c242 => ?_)
        · have h := h_f c242 h
          exact lab298 l7 l9 l10 l11 l12 l15 t0 v241 w _ _ (by omega) (by omega) _ _ _ (lv_sub hl [2, 3, 4, 5, 6, 7, 8, 9, 10, 11, 12, 13, 15, 1, 0] rfl) S h
        · have h := h_t c242 h
          refine lv_iload hx hb dL_law_212 (lv_at hl 10 rfl) ?_
          refine lv_bipush (v := 6) hx hb dL_law_214 (by decide) ?_
          refine lv_icmp_ge (tgt := 298) hx hb dL_law_216 rfl (fun c243 => ?_) (fun c243 => ?_)
          · have h := h_t c243 h
            exact lab298 l7 l9 l10 l11 l12 l15 t0 v241 w _ _ (by omega) (by omega) _ _ _ (lv_sub hl [2, 3, 4, 5, 6, 7, 8, 9, 10, 11, 12, 13, 15, 1, 0] rfl) S h
          · have h := h_f c243 h
            refine lv_aload_n hx hb dL_law_219 rfl (lv_at hl 5 rfl) ?_
            refine lv_iload hx hb dL_law_220 (lv_at hl 10 rfl) ?_
            refine lv_iconst (v := 2) hx hb dL_law_222 (by decide) ?_
            refine lv_iload hx hb dL_law_223 (lv_at hl 0 rfl) ?_
            refine lv_iconst (v := 5) hx hb dL_law_225 (by decide) ?_
            obtain ⟨g244, h⟩ := h_gd h
            refine lv_irem hx hb dL_law_226 (nz_of g244) ?_
            refine lv_iadd hx hb dL_law_227 ?_
            obtain ⟨g245, h⟩ := h_gd h
            refine r_iast hx hb C S KL_73 (h_in g245) dL_law_228 (fun w246 ew246 H locs S => ?_)
            have h := h_l h w246 ew246
            refine lv_aload hx hb dL_law_229 (lv_at hl 6 rfl) ?_
            refine lv_iload hx hb dL_law_231 (lv_at hl 10 rfl) ?_
            refine lv_iconst (v := 1) hx hb dL_law_233 (by decide) ?_
            refine lv_iload hx hb dL_law_234 (lv_at hl 0 rfl) ?_
            refine lv_iconst (v := 5) hx hb dL_law_236 (by decide) ?_
            obtain ⟨g247, h⟩ := h_gd h
            refine lv_idiv hx hb dL_law_237 (nz_of g247) ?_
            refine lv_iconst (v := 1) hx hb dL_law_238 (by decide) ?_
            refine lv_iload hx hb dL_law_239 (lv_at hl 0 rfl) ?_
            refine lv_iconst (v := 5) hx hb dL_law_241 (by decide) ?_
            obtain ⟨g248, h⟩ := h_gd h
            refine lv_irem hx hb dL_law_242 (nz_of g248) ?_
            refine lv_iadd hx hb dL_law_243 ?_
            obtain ⟨g249, h⟩ := h_gd h
            refine lv_irem hx hb dL_law_244 (nz_of g249) ?_
            refine lv_iadd hx hb dL_law_245 ?_
            obtain ⟨g250, h⟩ := h_gd h
            refine r_iast hx hb C S KL_74 (h_in g250) dL_law_246 (fun w251 ew251 H locs S => ?_)
            have h := h_l h w251 ew251
            refine lv_aload hx hb dL_law_247 (lv_at hl 7 rfl) ?_
            refine lv_iload hx hb dL_law_249 (lv_at hl 10 rfl) ?_
            refine lv_iconst (v := -1) hx hb dL_law_251 (by decide) ?_
            obtain ⟨g252, h⟩ := h_gd h
            refine r_iast hx hb C S KL_75 (h_in g252) dL_law_252 (fun w253 ew253 H locs S => ?_)
            have h := h_l h w253 ew253
            refine lv_aload_n hx hb dL_law_253 rfl (lv_at hl 3 rfl) ?_
            refine lv_iload hx hb dL_law_254 (lv_at hl 0 rfl) ?_
            refine lv_bipush (v := 25) hx hb dL_law_256 (by decide) ?_
            obtain ⟨g254, h⟩ := h_gd h
            refine lv_idiv hx hb dL_law_258 (nz_of g254) ?_
            refine lv_iconst (v := 3) hx hb dL_law_259 (by decide) ?_
            obtain ⟨g255, h⟩ := h_gd h
            refine lv_irem hx hb dL_law_260 (nz_of g255) ?_
            refine lv_aload_n hx hb dL_law_261 rfl (lv_at hl 5 rfl) ?_
            refine lv_iload hx hb dL_law_262 (lv_at hl 10 rfl) ?_
            obtain ⟨g256, h⟩ := h_gd h
            refine r_iald hx hb C S KL_73 (h_in g256) dL_law_264 ?_
            refine lv_aload hx hb dL_law_265 (lv_at hl 6 rfl) ?_
            refine lv_iload hx hb dL_law_267 (lv_at hl 10 rfl) ?_
            obtain ⟨g257, h⟩ := h_gd h
            refine r_iald hx hb C S KL_74 (h_in g257) dL_law_269 ?_
            refine lv_iload hx hb dL_law_270 (lv_at hl 0 rfl) ?_
            refine lv_bipush (v := 75) hx hb dL_law_272 (by decide) ?_
            obtain ⟨g258, h⟩ := h_gd h
            refine lv_idiv hx hb dL_law_274 (nz_of g258) ?_
            refine lv_iconst (v := 3) hx hb dL_law_275 (by decide) ?_
            obtain ⟨g259, h⟩ := h_gd h
            refine lv_irem hx hb dL_law_276 (nz_of g259) ?_
            obtain ⟨x260, ex260, h⟩ := h_c h
            refine kl_i C S (w_S (rest := []) (As := [.ref (q 0), .int ((v241 / (25 : Int32)) - (v241 / (25 : Int32)) / (3 : Int32) * (3 : Int32)), .int (w253 73 (l9).toNatClampNeg), .int (w253 74 (l9).toNatClampNeg), .int ((v241 / (75 : Int32)) - (v241 / (75 : Int32)) / (3 : Int32) * (3 : Int32))]) lw_156 hx hb hml C S (c_l_open l hfl D dA q ((v241 / (25 : Int32)) - (v241 / (25 : Int32)) / (3 : Int32) * (3 : Int32)) (w253 73 (l9).toNatClampNeg) (w253 74 (l9).toNatClampNeg) ((v241 / (75 : Int32)) - (v241 / (75 : Int32)) / (3 : Int32) * (3 : Int32)) w253 x260.2 x260.1 ex260) ⟨Nat.le_trans (Nat.le_of_ble_eq_true rfl) hRf, Nat.le_trans (Nat.le_of_ble_eq_true rfl) hRl⟩ rfl hl.1 rfl (Nat.le_of_ble_eq_true rfl) dL_law_277 ⟨by omega, by omega⟩) (fun w261 ew261 H locs S => ?_)
            have h := h_l h w261 ew261
            refine lv_iload hx hb dL_law_280 (lv_at hl 10 rfl) ?_
            refine lv_icmp_ne (tgt := 289) hx hb dL_law_282 rfl (fun c262 => ?_) (fun c262 => ?_)
            · have h := h_f c262 h
              refine lv_iconst (v := 0) hx hb dL_law_289 (by decide) ?_
              exact lab290 l9 l10 l11 l12 t0 (0 : Int32) w261 _ _ (by omega) (by omega) _ _ _ (lv_sub hl [2, 3, 4, 5, 6, 7, 8, 10, 11, 12, 13, 1] rfl) S h
            · have h := h_t c262 h
              refine lv_iconst (v := 1) hx hb dL_law_285 (by decide) ?_
              refine lv_goto (tgt := 290) hx hb dL_law_286 rfl ?_
              exact lab290 l9 l10 l11 l12 t0 (1 : Int32) w261 _ _ (by omega) (by omega) _ _ _ (lv_sub hl [2, 3, 4, 5, 6, 7, 8, 10, 11, 12, 13, 1] rfl) S h
      have lab182 : ∀ (l7 : Int32) (l9 : Int32) (l10 : Int32) (l11 : Int32) (l12 : Int32) (l14 : Int32) (t0 : Int32) (w : Wt) (cl sl : Nat) (hc : cl + (1572 + (n139 * 1572)) ≤ 81604) (hs : sl + 6 * (1572 + (n139 * 1572)) ≤ 489624) (H : Heap) (locs : List Loc) (ls : Array Slot), lv_has ls 22 [(0, .ref bb), (1, .ref (q 0)), (2, .ref (q 72)), (3, .ref (q 73)), (4, .ref (q 74)), (5, .ref (q 75)), (6, .ref (q 76)), (7, .int l7), (9, .int l9), (10, .int l10), (11, .int l11), (12, .int l12), (14, .int l14)] → Sta KL D dA q A s.heap w H locs → Option.bind (l_law_b182 xs L l7 l9 l10 l11 l12 l14 t0 w) (seqF (fun s9 => Option.bind (lp (l_law_L139 xs L) n139 s9) (fun x9 => Option.bind (l_law_x139 xs L x9) some)) (fun x9 => Option.bind (l_law_x139 xs L x9) some)) = some z → W p l e R s m args below meth c H locs cl sl Q (F0 m 182 ls [.int t0]) := by
        intro l7 l9 l10 l11 l12 l14 t0 w cl sl hc hs H locs ls hl S h
        unfold l_law_b182 at h
        refine lv_istore (lv' := [(15, .int t0), (0, .ref bb), (1, .ref (q 0)), (2, .ref (q 72)), (3, .ref (q 73)), (4, .ref (q 74)), (5, .ref (q 75)), (6, .ref (q 76)), (7, .int l7), (9, .int l9), (10, .int l10), (11, .int l11), (12, .int l12), (14, .int l14)]) hx hb dL_law_182 hl (Nat.le_of_ble_eq_true rfl) rfl (fun ls hl => ?_)
        refine lv_iload hx hb dL_law_184 (lv_at hl 9 rfl) ?_
        refine lv_if_ne (tgt := 193) hx hb dL_law_186 rfl (fun c263 => ?_) (fun c263 => ?_)
        · have h := h_f c263 h
          refine lv_iload hx hb dL_law_193 (lv_at hl 13 rfl) ?_
          refine lv_iload hx hb dL_law_195 (lv_at hl 9 rfl) ?_
          obtain ⟨g264, h⟩ := h_gd h
          refine lv_irem hx hb dL_law_197 (nz_of g264) ?_
          exact lab198 l7 l9 l10 l11 l12 l14 t0 (l14 - l14 / l9 * l9) w _ _ (by omega) (by omega) _ _ _ (lv_sub hl [1, 2, 3, 4, 5, 6, 7, 8, 9, 10, 11, 12, 13, 0] rfl) S h
        · have h := h_t c263 h
          refine lv_iconst (v := 0) hx hb dL_law_189 (by decide) ?_
          refine lv_goto (tgt := 198) hx hb dL_law_190 rfl ?_
          exact lab198 l7 l9 l10 l11 l12 l14 t0 (0 : Int32) w _ _ (by omega) (by omega) _ _ _ (lv_sub hl [1, 2, 3, 4, 5, 6, 7, 8, 9, 10, 11, 12, 13, 0] rfl) S h
      intro l7 l9 l10 l11 l12 w cl sl hc hs H locs ls hl S h
      have h := h_lp h
      unfold l_law_L139 at h
      refine lv_iload hx hb dL_law_139 (lv_at hl 11 rfl) ?_
      refine lv_bipush (v := 50) hx hb dL_law_141 (by decide) ?_
      refine lv_icmp_ge (tgt := 1666) hx hb dL_law_143 rfl (fun c265 => ?_) (fun c265 => ?_)
      · have h := h_t c265 h
        exact lab1666 l7 w _ _ (by omega) (by omega) _ _ _ (lv_sub hl [7] rfl) S h
      · have h := h_f c265 h
        refine lv_iload hx hb dL_law_146 (lv_at hl 7 rfl) ?_
        refine lv_if_eq (tgt := 1666) hx hb dL_law_148 rfl (fun c266 => ?_) (fun c266 => ?_)
        · have h := h_t c266 h
          exact lab1666 l7 w _ _ (by omega) (by omega) _ _ _ (lv_sub hl [7] rfl) S h
        · have h := h_f c266 h
          refine lv_aload_n hx hb dL_law_151 rfl (lv_at hl 0 rfl) ?_
          refine lv_iconst (v := 3) hx hb dL_law_152 (by decide) ?_
          refine lv_iload hx hb dL_law_153 (lv_at hl 11 rfl) ?_
          refine lv_iadd hx hb dL_law_155 ?_
          obtain ⟨x267, ex267, h⟩ := h_c h
          refine k_cell (rest := []) hx hb hml C S hX hbl hbA ex267 ⟨Nat.le_trans (Nat.le_of_ble_eq_true rfl) hRf, Nat.le_trans (Nat.le_of_ble_eq_true rfl) hRl⟩ hl.1 (Nat.le_of_ble_eq_true rfl) dL_law_156 ⟨by omega, by omega⟩ (fun H locs S => ?_)
          refine lv_istore (lv' := [(13, .int x267), (0, .ref bb), (1, .ref (q 0)), (2, .ref (q 72)), (3, .ref (q 73)), (4, .ref (q 74)), (5, .ref (q 75)), (6, .ref (q 76)), (7, .int l7), (9, .int l9), (10, .int l10), (11, .int l11), (12, .int l12)]) hx hb dL_law_159 hl (Nat.le_of_ble_eq_true rfl) rfl (fun ls hl => ?_)
          refine lv_iload hx hb dL_law_161 (lv_at hl 0 rfl) ?_
          refine lv_bipush (v := 16) hx hb dL_law_163 (by decide) ?_
          obtain ⟨g268, h⟩ := h_gd h
          refine lv_idiv hx hb dL_law_165 (nz_of g268) ?_
          refine lv_topi (fun v269 ev269 => ?_)
          have h := h_l h v269 ev269
          refine lv_istore (lv' := [(14, .int v269), (13, .int x267), (0, .ref bb), (1, .ref (q 0)), (2, .ref (q 72)), (3, .ref (q 73)), (4, .ref (q 74)), (5, .ref (q 75)), (6, .ref (q 76)), (7, .int l7), (9, .int l9), (10, .int l10), (11, .int l11), (12, .int l12)]) hx hb dL_law_166 hl (Nat.le_of_ble_eq_true rfl) rfl (fun ls hl => ?_)
          refine lv_iload hx hb dL_law_168 (lv_at hl 10 rfl) ?_
          refine lv_if_ne (tgt := 177) hx hb dL_law_170 rfl (fun c270 => ?_) (fun c270 => ?_)
          · have h := h_f c270 h
            refine lv_iload hx hb dL_law_177 (lv_at hl 1 rfl) ?_
            refine lv_bipush (v := 16) hx hb dL_law_179 (by decide) ?_
            obtain ⟨g271, h⟩ := h_gd h
            refine lv_irem hx hb dL_law_181 (nz_of g271) ?_
            exact lab182 l7 l9 l10 l11 l12 v269 (x267 - x267 / (16 : Int32) * (16 : Int32)) w _ _ (by omega) (by omega) _ _ _ (lv_sub hl [2, 3, 4, 5, 6, 7, 8, 9, 10, 11, 12, 13, 0] rfl) S h
          · have h := h_t c270 h
            refine lv_iconst (v := 0) hx hb dL_law_173 (by decide) ?_
            refine lv_goto (tgt := 182) hx hb dL_law_174 rfl ?_
            exact lab182 l7 l9 l10 l11 l12 v269 (0 : Int32) w _ _ (by omega) (by omega) _ _ _ (lv_sub hl [2, 3, 4, 5, 6, 7, 8, 9, 10, 11, 12, 13, 0] rfl) S h
  have lab127 : ∀ (l7 : Int32) (w : Wt) (cl sl : Nat) (hc : cl + 80172 ≤ 81604) (hs : sl + 6 * 80172 ≤ 489624) (H : Heap) (locs : List Loc) (ls : Array Slot), lv_has ls 22 [(0, .ref bb), (1, .ref (q 0)), (2, .ref (q 72)), (3, .ref (q 73)), (4, .ref (q 74)), (5, .ref (q 75)), (6, .ref (q 76)), (7, .int l7)] → Sta KL D dA q A s.heap w H locs → Option.bind (l_law_b127 xs L l7 w) some = some z → W p l e R s m args below meth c H locs cl sl Q (F0 m 127 ls []) := by
    intro l7 w cl sl hc hs H locs ls hl S h
    unfold l_law_b127 at h
    refine lv_iconst (v := 0) hx hb dL_law_127 (by decide) ?_
    refine lv_istore (lv' := [(9, .int (0 : Int32)), (0, .ref bb), (1, .ref (q 0)), (2, .ref (q 72)), (3, .ref (q 73)), (4, .ref (q 74)), (5, .ref (q 75)), (6, .ref (q 76)), (7, .int l7)]) hx hb dL_law_128 hl (Nat.le_of_ble_eq_true rfl) rfl (fun ls hl => ?_)
    refine lv_iconst (v := 0) hx hb dL_law_130 (by decide) ?_
    refine lv_istore (lv' := [(10, .int (0 : Int32)), (9, .int (0 : Int32)), (0, .ref bb), (1, .ref (q 0)), (2, .ref (q 72)), (3, .ref (q 73)), (4, .ref (q 74)), (5, .ref (q 75)), (6, .ref (q 76)), (7, .int l7)]) hx hb dL_law_131 hl (Nat.le_of_ble_eq_true rfl) rfl (fun ls hl => ?_)
    refine lv_iconst (v := 0) hx hb dL_law_133 (by decide) ?_
    refine lv_istore (lv' := [(11, .int (0 : Int32)), (10, .int (0 : Int32)), (9, .int (0 : Int32)), (0, .ref bb), (1, .ref (q 0)), (2, .ref (q 72)), (3, .ref (q 73)), (4, .ref (q 74)), (5, .ref (q 75)), (6, .ref (q 76)), (7, .int l7)]) hx hb dL_law_134 hl (Nat.le_of_ble_eq_true rfl) rfl (fun ls hl => ?_)
    refine lv_iconst (v := 0) hx hb dL_law_136 (by decide) ?_
    refine lv_istore (lv' := [(12, .int (0 : Int32)), (11, .int (0 : Int32)), (10, .int (0 : Int32)), (9, .int (0 : Int32)), (0, .ref bb), (1, .ref (q 0)), (2, .ref (q 72)), (3, .ref (q 73)), (4, .ref (q 74)), (5, .ref (q 75)), (6, .ref (q 76)), (7, .int l7)]) hx hb dL_law_137 hl (Nat.le_of_ble_eq_true rfl) rfl (fun ls hl => ?_)
    exact loop139  51 l7 (0 : Int32) (0 : Int32) (0 : Int32) (0 : Int32) w _ _ (by omega) (by omega) _ _ _ (lv_sub hl [4, 5, 6, 7, 8, 9, 10, 11, 3, 2, 1, 0] rfl) S (h_bb h)
  have loop53 : ∀ (n53 : Nat), ∀ (l7 : Int32) (l8 : Int32) (w : Wt) (cl sl : Nat) (hc : cl + (80172 + (n53 * 108)) ≤ 81604) (hs : sl + 6 * (80172 + (n53 * 108)) ≤ 489624) (H : Heap) (locs : List Loc) (ls : Array Slot), lv_has ls 22 [(0, .ref bb), (1, .ref (q 0)), (2, .ref (q 72)), (3, .ref (q 73)), (4, .ref (q 74)), (5, .ref (q 75)), (6, .ref (q 76)), (7, .int l7), (8, .int l8)] → Sta KL D dA q A s.heap w H locs → Option.bind (lp (l_law_L53 xs L) n53 (l7, l8, w)) (fun x9 => Option.bind (l_law_x53 xs L x9) some) = some z → W p l e R s m args below meth c H locs cl sl Q (F0 m 53 ls []) := by
    intro  n53
    induction n53 with
    | zero =>
      intro l7 l8 w cl sl hc hs H locs ls hl S h
      exact (h_lp0 h).elim
    | succ n53 ih53 =>
      intro l7 l8 w cl sl hc hs H locs ls hl S h
      have h := h_lp h
      unfold l_law_L53 at h
      refine lv_iload hx hb dL_law_53 (lv_at hl 8 rfl) ?_
      refine lv_iconst (v := 3) hx hb dL_law_55 (by decide) ?_
      refine lv_icmp_ge (tgt := 127) hx hb dL_law_56 rfl (fun c272 => ?_) (fun c272 => ?_)
      · have h := h_t c272 h
        exact lab127 l7 w _ _ (by omega) (by omega) _ _ _ (lv_sub hl [0, 1, 2, 3, 4, 5, 6, 7] rfl) S h
      · have h := h_f c272 h
        refine lv_iload hx hb dL_law_59 (lv_at hl 7 rfl) ?_
        refine lv_if_eq (tgt := 127) hx hb dL_law_61 rfl (fun c273 => ?_) (fun c273 => ?_)
        · have h := h_t c273 h
          exact lab127 l7 w _ _ (by omega) (by omega) _ _ _ (lv_sub hl [0, 1, 2, 3, 4, 5, 6, 7] rfl) S h
        · have h := h_f c273 h
          refine lv_aload_n hx hb dL_law_64 rfl (lv_at hl 2 rfl) ?_
          refine lv_aload_n hx hb dL_law_65 rfl (lv_at hl 0 rfl) ?_
          refine lv_iload hx hb dL_law_66 (lv_at hl 8 rfl) ?_
          obtain ⟨x274, ex274, h⟩ := h_c h
          refine k_cell (rest := [.ref (q 72)]) hx hb hml C S hX hbl hbA ex274 ⟨Nat.le_trans (Nat.le_of_ble_eq_true rfl) hRf, Nat.le_trans (Nat.le_of_ble_eq_true rfl) hRl⟩ hl.1 (Nat.le_of_ble_eq_true rfl) dL_law_68 ⟨by omega, by omega⟩ (fun H locs S => ?_)
          obtain ⟨x275, ex275, h⟩ := h_c h
          refine kb_i C S (q_S (rest := []) (As := [.ref (q 72), .int x274]) lk_RL_151 ev hx hb hml C S (c_l_lays l D dA q x274 w x275.2 x275.1 ex275 _) rfl rfl ⟨Nat.le_trans (Nat.le_of_ble_eq_true rfl) hRf, Nat.le_trans (Nat.le_of_ble_eq_true rfl) hRl⟩ rfl hl.1 rfl (Nat.le_of_ble_eq_true rfl) dL_law_71 ⟨by omega, by omega⟩) (fun w276 ew276 H locs S => ?_)
          have h := h_l h w276 ew276
          refine lv_topi (fun v277 ev277 => ?_)
          have h := h_l h v277 ev277
          refine lv_istore (lv' := [(9, .int v277), (0, .ref bb), (1, .ref (q 0)), (2, .ref (q 72)), (3, .ref (q 73)), (4, .ref (q 74)), (5, .ref (q 75)), (6, .ref (q 76)), (7, .int l7), (8, .int l8)]) hx hb dL_law_74 hl (Nat.le_of_ble_eq_true rfl) rfl (fun ls hl => ?_)
          refine lv_aload_n hx hb dL_law_76 rfl (lv_at hl 2 rfl) ?_
          refine lv_aload_n hx hb dL_law_77 rfl (lv_at hl 3 rfl) ?_
          refine lv_iload hx hb dL_law_78 (lv_at hl 0 rfl) ?_
          obtain ⟨x278, ex278, h⟩ := h_c h
          refine kb_i C S (q_S (rest := []) (As := [.ref (q 0), .ref (q 72), .int v277]) lk_RL_111 ev hx hb hml C S (c_l_types l hfl D dA q v277 w276 x278.2 x278.1 ex278 _) rfl rfl ⟨Nat.le_trans (Nat.le_of_ble_eq_true rfl) hRf, Nat.le_trans (Nat.le_of_ble_eq_true rfl) hRl⟩ rfl hl.1 rfl (Nat.le_of_ble_eq_true rfl) dL_law_80 ⟨by omega, by omega⟩) (fun w279 ew279 H locs S => ?_)
          have h := h_l h w279 ew279
          refine lv_if_eq (tgt := 118) hx hb dL_law_83 rfl (fun c280 => ?_) (fun c280 => ?_)
          · have h := h_t c280 h
            refine lv_iconst (v := 0) hx hb dL_law_118 (by decide) ?_
            refine lv_istore (lv' := [(7, .int (0 : Int32)), (9, .int v277), (0, .ref bb), (1, .ref (q 0)), (2, .ref (q 72)), (3, .ref (q 73)), (4, .ref (q 74)), (5, .ref (q 75)), (6, .ref (q 76)), (8, .int l8)]) hx hb dL_law_119 hl (Nat.le_of_ble_eq_true rfl) rfl (fun ls hl => ?_)
            refine lv_iinc (v := (l8 + 1)) (lv' := [(8, .int (l8 + 1)), (7, .int (0 : Int32)), (9, .int v277), (0, .ref bb), (1, .ref (q 0)), (2, .ref (q 72)), (3, .ref (q 73)), (4, .ref (q 74)), (5, .ref (q 75)), (6, .ref (q 76))]) hx hb dL_law_121 hl (k := 9) rfl rfl (Nat.le_of_ble_eq_true rfl) rfl (fun ls hl => ?_)
            refine lv_goto (tgt := 53) hx hb dL_law_124 rfl ?_
            exact ih53 (0 : Int32) (l8 + 1) w279 _ _ (by omega) (by omega) _ _ _ (lv_sub hl [3, 4, 5, 6, 7, 8, 9, 1, 0] rfl) S h
          · have h := h_f c280 h
            refine lv_aload_n hx hb dL_law_86 rfl (lv_at hl 2 rfl) ?_
            obtain ⟨x281, ex281, h⟩ := h_c h
            refine kl_i0 C S (q_V (rest := []) (As := []) lk_RL_115 EVc_ok hx hb hml (kC C) (kS S) KC_0 rfl (c_f_Ballotscript_fault l D dA q w279 x281 ex281 _) rfl rfl ⟨Nat.le_trans (Nat.le_of_ble_eq_true rfl) hRf, Nat.le_trans (Nat.le_of_ble_eq_true rfl) hRl⟩ rfl hl.1 rfl (Nat.le_of_ble_eq_true rfl) dL_law_87 ⟨by omega, by omega⟩) (fun H locs S => ?_)
            refine lv_iconst (v := -1) hx hb dL_law_90 (by decide) ?_
            refine lv_icmp_ne (tgt := 118) hx hb dL_law_91 rfl (fun c282 => ?_) (fun c282 => ?_)
            · have h := h_f c282 h
              refine lv_iconst (v := 0) hx hb dL_law_118 (by decide) ?_
              refine lv_istore (lv' := [(7, .int (0 : Int32)), (9, .int v277), (0, .ref bb), (1, .ref (q 0)), (2, .ref (q 72)), (3, .ref (q 73)), (4, .ref (q 74)), (5, .ref (q 75)), (6, .ref (q 76)), (8, .int l8)]) hx hb dL_law_119 hl (Nat.le_of_ble_eq_true rfl) rfl (fun ls hl => ?_)
              refine lv_iinc (v := (l8 + 1)) (lv' := [(8, .int (l8 + 1)), (7, .int (0 : Int32)), (9, .int v277), (0, .ref bb), (1, .ref (q 0)), (2, .ref (q 72)), (3, .ref (q 73)), (4, .ref (q 74)), (5, .ref (q 75)), (6, .ref (q 76))]) hx hb dL_law_121 hl (k := 9) rfl rfl (Nat.le_of_ble_eq_true rfl) rfl (fun ls hl => ?_)
              refine lv_goto (tgt := 53) hx hb dL_law_124 rfl ?_
              exact ih53 (0 : Int32) (l8 + 1) w279 _ _ (by omega) (by omega) _ _ _ (lv_sub hl [3, 4, 5, 6, 7, 8, 9, 1, 0] rfl) S h
            · have h := h_t c282 h
              refine lv_aload_n hx hb dL_law_94 rfl (lv_at hl 2 rfl) ?_
              obtain ⟨x283, ex283, h⟩ := h_c h
              refine kl_i C S (w_S (rest := []) (As := [.ref (q 0)]) lw_120 hx hb hml C S (c_l_rule l hfl D dA q w279 x283.2 x283.1 ex283) ⟨Nat.le_trans (Nat.le_of_ble_eq_true rfl) hRf, Nat.le_trans (Nat.le_of_ble_eq_true rfl) hRl⟩ rfl hl.1 rfl (Nat.le_of_ble_eq_true rfl) dL_law_95 ⟨by omega, by omega⟩) (fun w284 ew284 H locs S => ?_)
              have h := h_l h w284 ew284
              refine lv_iload hx hb dL_law_98 (lv_at hl 9 rfl) ?_
              refine lv_icmp_ne (tgt := 118) hx hb dL_law_100 rfl (fun c285 => ?_) (fun c285 => ?_)
              · have h := h_f c285 h
                refine lv_iconst (v := 0) hx hb dL_law_118 (by decide) ?_
                refine lv_istore (lv' := [(7, .int (0 : Int32)), (9, .int v277), (0, .ref bb), (1, .ref (q 0)), (2, .ref (q 72)), (3, .ref (q 73)), (4, .ref (q 74)), (5, .ref (q 75)), (6, .ref (q 76)), (8, .int l8)]) hx hb dL_law_119 hl (Nat.le_of_ble_eq_true rfl) rfl (fun ls hl => ?_)
                refine lv_iinc (v := (l8 + 1)) (lv' := [(8, .int (l8 + 1)), (7, .int (0 : Int32)), (9, .int v277), (0, .ref bb), (1, .ref (q 0)), (2, .ref (q 72)), (3, .ref (q 73)), (4, .ref (q 74)), (5, .ref (q 75)), (6, .ref (q 76))]) hx hb dL_law_121 hl (k := 9) rfl rfl (Nat.le_of_ble_eq_true rfl) rfl (fun ls hl => ?_)
                refine lv_goto (tgt := 53) hx hb dL_law_124 rfl ?_
                exact ih53 (0 : Int32) (l8 + 1) w284 _ _ (by omega) (by omega) _ _ _ (lv_sub hl [3, 4, 5, 6, 7, 8, 9, 1, 0] rfl) S h
              · have h := h_t c285 h
                refine lv_aload_n hx hb dL_law_103 rfl (lv_at hl 2 rfl) ?_
                refine lv_iload hx hb dL_law_104 (lv_at hl 9 rfl) ?_
                obtain ⟨x286, ex286, h⟩ := h_c h
                refine kl_i0 C S (w_S (rest := []) (As := [.ref (q 0), .int l8]) lw_154 hx hb hml C S (c_l_commands l hfl D dA q l8 w284 x286 ex286) ⟨Nat.le_trans (Nat.le_of_ble_eq_true rfl) hRf, Nat.le_trans (Nat.le_of_ble_eq_true rfl) hRl⟩ rfl hl.1 rfl (Nat.le_of_ble_eq_true rfl) dL_law_106 ⟨by omega, by omega⟩) (fun H locs S => ?_)
                refine lv_bipush (v := 6) hx hb dL_law_109 (by decide) ?_
                refine lv_icmp_ne (tgt := 118) hx hb dL_law_111 rfl (fun c287 => ?_) (fun c287 => ?_)
                · have h := h_f c287 h
                  refine lv_iconst (v := 0) hx hb dL_law_118 (by decide) ?_
                  refine lv_istore (lv' := [(7, .int (0 : Int32)), (9, .int v277), (0, .ref bb), (1, .ref (q 0)), (2, .ref (q 72)), (3, .ref (q 73)), (4, .ref (q 74)), (5, .ref (q 75)), (6, .ref (q 76)), (8, .int l8)]) hx hb dL_law_119 hl (Nat.le_of_ble_eq_true rfl) rfl (fun ls hl => ?_)
                  refine lv_iinc (v := (l8 + 1)) (lv' := [(8, .int (l8 + 1)), (7, .int (0 : Int32)), (9, .int v277), (0, .ref bb), (1, .ref (q 0)), (2, .ref (q 72)), (3, .ref (q 73)), (4, .ref (q 74)), (5, .ref (q 75)), (6, .ref (q 76))]) hx hb dL_law_121 hl (k := 9) rfl rfl (Nat.le_of_ble_eq_true rfl) rfl (fun ls hl => ?_)
                  refine lv_goto (tgt := 53) hx hb dL_law_124 rfl ?_
                  exact ih53 (0 : Int32) (l8 + 1) w284 _ _ (by omega) (by omega) _ _ _ (lv_sub hl [3, 4, 5, 6, 7, 8, 9, 1, 0] rfl) S h
                · have h := h_t c287 h
                  refine lv_iconst (v := 1) hx hb dL_law_114 (by decide) ?_
                  refine lv_goto (tgt := 119) hx hb dL_law_115 rfl ?_
                  refine lv_istore (lv' := [(7, .int (1 : Int32)), (9, .int v277), (0, .ref bb), (1, .ref (q 0)), (2, .ref (q 72)), (3, .ref (q 73)), (4, .ref (q 74)), (5, .ref (q 75)), (6, .ref (q 76)), (8, .int l8)]) hx hb dL_law_119 hl (Nat.le_of_ble_eq_true rfl) rfl (fun ls hl => ?_)
                  refine lv_iinc (v := (l8 + 1)) (lv' := [(8, .int (l8 + 1)), (7, .int (1 : Int32)), (9, .int v277), (0, .ref bb), (1, .ref (q 0)), (2, .ref (q 72)), (3, .ref (q 73)), (4, .ref (q 74)), (5, .ref (q 75)), (6, .ref (q 76))]) hx hb dL_law_121 hl (k := 9) rfl rfl (Nat.le_of_ble_eq_true rfl) rfl (fun ls hl => ?_)
                  refine lv_goto (tgt := 53) hx hb dL_law_124 rfl ?_
                  exact ih53 (1 : Int32) (l8 + 1) w284 _ _ (by omega) (by omega) _ _ _ (lv_sub hl [3, 4, 5, 6, 7, 8, 9, 1, 0] rfl) S h
  have lab48 : ∀ (t0 : Int32) (w : Wt) (cl sl : Nat) (hc : cl + 80604 ≤ 81604) (hs : sl + 6 * 80604 ≤ 489624) (H : Heap) (locs : List Loc) (ls : Array Slot), lv_has ls 22 [(0, .ref bb), (1, .ref (q 0)), (2, .ref (q 72)), (3, .ref (q 73)), (4, .ref (q 74)), (5, .ref (q 75)), (6, .ref (q 76))] → Sta KL D dA q A s.heap w H locs → Option.bind (l_law_b48 xs L t0 w) some = some z → W p l e R s m args below meth c H locs cl sl Q (F0 m 48 ls [.int t0]) := by
    intro t0 w cl sl hc hs H locs ls hl S h
    unfold l_law_b48 at h
    refine lv_istore (lv' := [(7, .int t0), (0, .ref bb), (1, .ref (q 0)), (2, .ref (q 72)), (3, .ref (q 73)), (4, .ref (q 74)), (5, .ref (q 75)), (6, .ref (q 76))]) hx hb dL_law_48 hl (Nat.le_of_ble_eq_true rfl) rfl (fun ls hl => ?_)
    refine lv_iconst (v := 0) hx hb dL_law_50 (by decide) ?_
    refine lv_istore (lv' := [(8, .int (0 : Int32)), (7, .int t0), (0, .ref bb), (1, .ref (q 0)), (2, .ref (q 72)), (3, .ref (q 73)), (4, .ref (q 74)), (5, .ref (q 75)), (6, .ref (q 76))]) hx hb dL_law_51 hl (Nat.le_of_ble_eq_true rfl) rfl (fun ls hl => ?_)
    exact loop53  4 t0 (0 : Int32) w _ _ (by omega) (by omega) _ _ _ (lv_sub hl [2, 3, 4, 5, 6, 7, 8, 1, 0] rfl) S (h_bb h)
  intro H locs ls hl S h
  have h := h_0 h
  unfold l_law at h
  refine lv_aload_n hx hb dL_law_36 rfl (lv_at hl 1 rfl) ?_
  obtain ⟨x288, ex288, h⟩ := h_c h
  refine kl_i C S (q_V (rest := []) (As := []) lk_RL_144 EVc_ok hx hb hml (kC C) (kS S) KC_0 rfl (c_f_Ballotscript_stale l D dA q w x288.2 x288.1 ex288 _) rfl rfl ⟨Nat.le_trans (Nat.le_of_ble_eq_true rfl) hRf, Nat.le_trans (Nat.le_of_ble_eq_true rfl) hRl⟩ rfl hl.1 rfl (Nat.le_of_ble_eq_true rfl) dL_law_37 ⟨by omega, by omega⟩) (fun w289 ew289 H locs S => ?_)
  have h := h_l h w289 ew289
  refine lv_if_ne (tgt := 47) hx hb dL_law_40 rfl (fun c290 => ?_) (fun c290 => ?_)
  · have h := h_f c290 h
    refine lv_iconst (v := 0) hx hb dL_law_47 (by decide) ?_
    exact lab48 (0 : Int32) w289 _ _ (by omega) (by omega) _ _ _ (lv_sub hl [0, 1, 2, 3, 4, 5, 6] rfl) S h
  · have h := h_t c290 h
    refine lv_iconst (v := 1) hx hb dL_law_43 (by decide) ?_
    refine lv_goto (tgt := 48) hx hb dL_law_44 rfl ?_
    exact lab48 (1 : Int32) w289 _ _ (by omega) (by omega) _ _ _ (lv_sub hl [0, 1, 2, 3, 4, 5, 6] rfl) S h
end WALKS

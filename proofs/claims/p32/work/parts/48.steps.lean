/-! the reference's steps: here no more than a state that tells what the class's calls do -/
/-- which number the reference tells of a throw -/
def cdN : List Nat → Nat → Nat → Nat
  | [], _, n => n
  | x :: l, k, n => if k = x then n else cdN l k (n + 1)
def cdX (L : List Nat) (res : Nat ⊕ Int32) : Int32 := match res with
  | .inl k => nI (cdN L k 1)
  | .inr _ => 0
def m_thrown (w : Wt) : Option Int32 := some (w 0 45)
def m_goes_b26 (t0 : Int32) (w : Wt) : Option (Int32 × Wt) := nmd (upd2 w 0 45 t0) fun w1 => (if (w1 0 45) = (0 : Int32) then some ((1 : Int32), w1) else some ((0 : Int32), w1))
def m_goes (a1 : Int32) (a2 : Int32) (a3 : Int32) (w : Wt) : Option (Int32 × Wt) := (if a1 = (0 : Int32) then m_goes_b26 (1 : Int32) w else (if a2 = (0 : Int32) then m_goes_b26 (2 : Int32) w else (if a3 = (0 : Int32) then m_goes_b26 (3 : Int32) w else m_goes_b26 (0 : Int32) w)))
def m_isBelow (a0 : Int32) (a1 : Int32) : Option Int32 := (if a0 < (0 : Int32) then some (0 : Int32) else (if a1 ≤ a0 then some (0 : Int32) else some (1 : Int32)))
def m_isWithin (a0 : Int32) (a1 : Int32) (a2 : Int32) : Option Int32 := (if a0 < a1 then some (0 : Int32) else (if a2 < a0 then some (0 : Int32) else some (1 : Int32)))
def m_enter_b69 (l1 : Int32) (l2 : Int32) (l3 : Int32) (l4 : Int32) (t0 : Int32) (t1 : Int32) (t2 : Int32) (w : Wt) : Option (Int32 × Wt) := Option.bind (m_goes t2 t1 t0 w) fun x1 => (if x1.1 = (0 : Int32) then some ((0 : Int32), x1.2) else gd (inb (x1.2 0 6) 60) (nmd (upd2 x1.2 1 ((x1.2 0 6)).toNatClampNeg l1) fun w4 => gd (inb (w4 0 6) 60) (nmd (upd2 w4 2 ((w4 0 6)).toNatClampNeg l2) fun w6 => gd (inb (w6 0 6) 60) (nmd (upd2 w6 3 ((w6 0 6)).toNatClampNeg l3) fun w8 => gd (inb (w8 0 6) 60) (nmd (upd2 w8 4 ((w8 0 6)).toNatClampNeg l4) fun w10 => gd (inb (w10 0 6) 60) (nmd (upd2 w10 5 ((w10 0 6)).toNatClampNeg (vp_nar .boolean (0 : Int32))) fun w12 => nmd (upd2 w12 0 6 ((w12 0 6) + (1 : Int32))) fun w13 => some (((w13 0 6) - (1 : Int32)), w13)))))))
def m_enter_b53 (l1 : Int32) (l2 : Int32) (l3 : Int32) (l4 : Int32) (l5 : Int32) (t0 : Int32) (w : Wt) : Option (Int32 × Wt) := (if (60 : Int32) ≤ (w 0 6) then m_enter_b69 l1 l2 l3 l4 (0 : Int32) l5 t0 w else m_enter_b69 l1 l2 l3 l4 (1 : Int32) l5 t0 w)
def m_enter_b52 (l1 : Int32) (l2 : Int32) (l3 : Int32) (l4 : Int32) (l5 : Int32) (w : Wt) : Option (Int32 × Wt) := m_enter_b53 l1 l2 l3 l4 l5 (0 : Int32) w
def m_enter_b28 (l1 : Int32) (l2 : Int32) (l3 : Int32) (l4 : Int32) (t0 : Int32) (w : Wt) : Option (Int32 × Wt) := Option.bind (m_isBelow l1 (3 : Int32)) fun x15 => (if x15 = (0 : Int32) then m_enter_b52 l1 l2 l3 l4 t0 w else Option.bind (m_isBelow l2 (20 : Int32)) fun x17 => (if x17 = (0 : Int32) then m_enter_b52 l1 l2 l3 l4 t0 w else m_enter_b53 l1 l2 l3 l4 t0 (1 : Int32) w))
def m_enter_b27 (l1 : Int32) (l2 : Int32) (l3 : Int32) (l4 : Int32) (w : Wt) : Option (Int32 × Wt) := m_enter_b28 l1 l2 l3 l4 (0 : Int32) w
def m_enter (a1 : Int32) (a2 : Int32) (a3 : Int32) (a4 : Int32) (w : Wt) : Option (Int32 × Wt) := Option.bind (m_isWithin a3 (0 : Int32) (1000 : Int32)) fun x19 => (if x19 = (0 : Int32) then m_enter_b27 a1 a2 a3 a4 w else Option.bind (m_isWithin a4 a3 (1000 : Int32)) fun x21 => (if x21 = (0 : Int32) then m_enter_b27 a1 a2 a3 a4 w else m_enter_b28 a1 a2 a3 a4 (1 : Int32) w))
def m_allowed_b86 (l4 : Int32) (w : Wt) : Option Int32 := gd (bob l4) (some l4)
def m_allowed_L6 (l1 : Int32) (l2 : Int32) (l3 : Int32) (w : Wt) : (Int32 × Int32) → Option ((Int32 × Int32) ⊕ Int32)
  | (l4, l5) => (if (w 0 6) ≤ l5 then some (.inr l4) else (if l4 = (0 : Int32) then gd (inb l5 60) ((if (w 5 (l5).toNatClampNeg) = (0 : Int32) then gd (inb l5 60) ((if (w 1 (l5).toNatClampNeg) = l1 then gd (inb l5 60) ((if (w 2 (l5).toNatClampNeg) = l2 then gd (inb l5 60) (gd (inb l5 60) (Option.bind (m_isWithin l3 (w 3 (l5).toNatClampNeg) (w 4 (l5).toNatClampNeg)) fun x12 => (if x12 = (0 : Int32) then some (.inl ((0 : Int32), (l5 + 1))) else some (.inl ((1 : Int32), (l5 + 1)))))) else some (.inl ((0 : Int32), (l5 + 1))))) else some (.inl ((0 : Int32), (l5 + 1))))) else some (.inl ((0 : Int32), (l5 + 1))))) else some (.inl ((1 : Int32), (l5 + 1)))))
def m_allowed_x6 (w : Wt) : Int32 → Option Int32
  | l4 => m_allowed_b86 l4 w
def m_allowed (a1 : Int32) (a2 : Int32) (a3 : Int32) (w : Wt) : Option Int32 := Option.bind (lp (m_allowed_L6 a1 a2 a3 w) FU ((0 : Int32), (0 : Int32))) (m_allowed_x6 w)
def m_reason_b60 (l1 : Int32) (l2 : Int32) (w : Wt) : Option Int32 := (if l2 = (0 : Int32) then gd (inb l1 100) (gd (inb (w 19 (l1).toNatClampNeg) 8) (gd (inb l1 100) (gd (inb l1 100) (Option.bind (m_allowed (w 9 ((w 19 (l1).toNatClampNeg)).toNatClampNeg) (w 20 (l1).toNatClampNeg) (w 21 (l1).toNatClampNeg) w) fun x6 => (if x6 = (0 : Int32) then some (2 : Int32) else some (0 : Int32)))))) else some (1 : Int32))
def m_reason_L6 (l1 : Int32) (w : Wt) : (Int32 × Int32) → Option ((Int32 × Int32) ⊕ Int32)
  | (l2, l3) => (if (w 0 27) ≤ l3 then some (.inr l2) else (if l2 = (0 : Int32) then gd (inb l3 100) (gd (inb l1 100) ((if (w 19 (l3).toNatClampNeg) = (w 19 (l1).toNatClampNeg) then gd (inb l3 100) (gd (inb l1 100) ((if (w 20 (l3).toNatClampNeg) = (w 20 (l1).toNatClampNeg) then some (.inl ((1 : Int32), (l3 + 1))) else some (.inl ((0 : Int32), (l3 + 1)))))) else some (.inl ((0 : Int32), (l3 + 1)))))) else some (.inl ((1 : Int32), (l3 + 1)))))
def m_reason_x6 (l1 : Int32) (w : Wt) : Int32 → Option Int32
  | l2 => m_reason_b60 l1 l2 w
def m_reason (a1 : Int32) (w : Wt) : Option Int32 := nmd (a1 + (1 : Int32)) fun v16 => Option.bind (lp (m_reason_L6 a1 w) FU ((0 : Int32), v16)) (m_reason_x6 a1 w)
def m_counting_b34 (l1 : Int32) (w : Wt) : Option Int32 := some l1
def m_counting_L4 (w : Wt) : (Int32 × Int32) → Option ((Int32 × Int32) ⊕ Int32)
  | (l1, l2) => (if (w 0 27) ≤ l2 then some (.inr l1) else Option.bind (m_reason l2 w) fun x2 => (if x2 = (0 : Int32) then nmd (l1 + (1 : Int32)) fun v5 => some (.inl (v5, (l2 + 1))) else nmd (l1 + (0 : Int32)) fun v4 => some (.inl (v4, (l2 + 1)))))
def m_counting_x4 (w : Wt) : Int32 → Option Int32
  | l1 => m_counting_b34 l1 w
def m_counting (w : Wt) : Option Int32 := Option.bind (lp (m_counting_L4 w) FU ((0 : Int32), (0 : Int32))) (m_counting_x4 w)
def m_strike_b29 (l1 : Int32) (t0 : Int32) (t1 : Int32) (w : Wt) : Option (Int32 × Wt) := Option.bind (m_goes t1 t0 (1 : Int32) w) fun x1 => (if x1.1 = (0 : Int32) then some ((0 : Int32), x1.2) else Option.bind (m_counting x1.2) fun x3 => gd (inb l1 60) (nmd (upd2 x1.2 5 (l1).toNatClampNeg (vp_nar .boolean (1 : Int32))) fun w5 => Option.bind (m_counting w5) fun x6 => some ((x3 - x6), w5)))
def m_strike_b28 (l1 : Int32) (t0 : Int32) (w : Wt) : Option (Int32 × Wt) := m_strike_b29 l1 (0 : Int32) t0 w
def m_strike (a1 : Int32) (w : Wt) : Option (Int32 × Wt) := Option.bind (m_isBelow a1 (w 0 6)) fun x7 => (if x7 = (0 : Int32) then m_strike_b28 a1 x7 w else gd (inb a1 60) ((if (w 5 (a1).toNatClampNeg) = (0 : Int32) then m_strike_b29 a1 (1 : Int32) x7 w else m_strike_b28 a1 x7 w)))
def m_isAllowed_b23 (l1 : Int32) (l2 : Int32) (l3 : Int32) (t0 : Int32) (w : Wt) : Option (Int32 × Wt) := Option.bind (m_isWithin l3 (0 : Int32) (1000 : Int32)) fun x1 => Option.bind (m_goes t0 x1 (1 : Int32) w) fun x2 => (if x2.1 = (0 : Int32) then some ((0 : Int32), x2.2) else Option.bind (m_allowed l1 l2 l3 x2.2) fun x4 => (if x4 = (0 : Int32) then some ((0 : Int32), x2.2) else some ((1 : Int32), x2.2)))
def m_isAllowed_b22 (l1 : Int32) (l2 : Int32) (l3 : Int32) (w : Wt) : Option (Int32 × Wt) := m_isAllowed_b23 l1 l2 l3 (0 : Int32) w
def m_isAllowed (a1 : Int32) (a2 : Int32) (a3 : Int32) (w : Wt) : Option (Int32 × Wt) := Option.bind (m_isBelow a1 (3 : Int32)) fun x6 => (if x6 = (0 : Int32) then m_isAllowed_b22 a1 a2 a3 w else Option.bind (m_isBelow a2 (20 : Int32)) fun x8 => (if x8 = (0 : Int32) then m_isAllowed_b22 a1 a2 a3 w else m_isAllowed_b23 a1 a2 a3 (1 : Int32) w))
def m_pass_b31 (l1 : Int32) (t0 : Int32) (t1 : Int32) (w : Wt) : Option (Int32 × Wt) := Option.bind (m_goes t1 t0 (1 : Int32) w) fun x1 => (if x1.1 = (0 : Int32) then some ((0 : Int32), x1.2) else nmd (upd2 x1.2 0 0 ((x1.2 0 0) + l1)) fun w3 => some ((w3 0 0), w3))
def m_pass_b30 (l1 : Int32) (t0 : Int32) (w : Wt) : Option (Int32 × Wt) := m_pass_b31 l1 (0 : Int32) t0 w
def m_pass (a1 : Int32) (w : Wt) : Option (Int32 × Wt) := Option.bind (m_isWithin a1 (1 : Int32) (100 : Int32)) fun x4 => (if x4 = (0 : Int32) then m_pass_b30 a1 x4 w else (if (1000 : Int32) < ((w 0 0) + a1) then m_pass_b30 a1 x4 w else m_pass_b31 a1 (1 : Int32) x4 w))
def m_isFigure (a0 : Int32) : Option Int32 := (if a0 < (48 : Int32) then some (0 : Int32) else (if (57 : Int32) < a0 then some (0 : Int32) else some (1 : Int32)))
def m_type_b59 (l1 : Int32) (t0 : Int32) (t1 : Int32) (w : Wt) : Option (Int32 × Wt) := Option.bind (m_goes t1 t0 (1 : Int32) w) fun x1 => (if x1.1 = (0 : Int32) then some ((0 : Int32), x1.2) else gd (inb (x1.2 0 8) 24) (nmd (upd2 x1.2 6 ((x1.2 0 8)).toNatClampNeg l1) fun w4 => nmd (upd2 w4 0 8 ((w4 0 8) + (1 : Int32))) fun w5 => some ((w5 0 8), w5)))
def m_type_b42 (l1 : Int32) (t0 : Int32) (w : Wt) : Option (Int32 × Wt) := (if (24 : Int32) ≤ (w 0 8) then m_type_b59 l1 (0 : Int32) t0 w else m_type_b59 l1 (1 : Int32) t0 w)
def m_type_b37 (l1 : Int32) (w : Wt) : Option (Int32 × Wt) := m_type_b42 l1 (1 : Int32) w
def m_type_b12 (l1 : Int32) (w : Wt) : Option (Int32 × Wt) := Option.bind (m_isFigure l1) fun x7 => (if x7 = (0 : Int32) then (if l1 = (59 : Int32) then m_type_b37 l1 w else (if l1 = (40 : Int32) then m_type_b37 l1 w else (if l1 = (41 : Int32) then m_type_b37 l1 w else m_type_b42 l1 (0 : Int32) w))) else m_type_b37 l1 w)
def m_type (a1 : Int32) (w : Wt) : Option (Int32 × Wt) := (if a1 < (97 : Int32) then m_type_b12 a1 w else (if a1 ≤ (122 : Int32) then m_type_b37 a1 w else m_type_b12 a1 w))
def m_wipe (w : Wt) : Option (Int32 × Wt) := nmd (upd2 w 0 45 (0 : Int32)) fun w1 => nmd (w1 0 8) fun v2 => nmd (upd2 w1 0 8 (0 : Int32)) fun w3 => some (v2, w3)
def m_isPlain_b47 (l0 : Int32) (l1 : Int32) (t0 : Int32) : Option Int32 := (if l1 = (0 : Int32) then (if t0 = (0 : Int32) then (if l0 = (108 : Int32) then some (1 : Int32) else (if l0 = (104 : Int32) then some (1 : Int32) else (if l0 = (113 : Int32) then some (1 : Int32) else some (0 : Int32)))) else some (1 : Int32)) else some (1 : Int32))
def m_isPlain_b42 (l0 : Int32) (l1 : Int32) : Option Int32 := m_isPlain_b47 l0 l1 (1 : Int32)
def m_isPlain_b23 (l0 : Int32) (t0 : Int32) : Option Int32 := (if l0 = (109 : Int32) then m_isPlain_b42 l0 t0 else (if l0 = (120 : Int32) then m_isPlain_b42 l0 t0 else (if l0 = (114 : Int32) then m_isPlain_b42 l0 t0 else m_isPlain_b47 l0 t0 (0 : Int32))))
def m_isPlain_b18 (l0 : Int32) : Option Int32 := m_isPlain_b23 l0 (1 : Int32)
def m_isPlain (a0 : Int32) : Option Int32 := (if a0 = (116 : Int32) then m_isPlain_b18 a0 else (if a0 = (98 : Int32) then m_isPlain_b18 a0 else (if a0 = (97 : Int32) then m_isPlain_b18 a0 else m_isPlain_b23 a0 (0 : Int32))))
def m_faultOf_b161 (l1 : Int32) (l2 : Int32) (w : Wt) : Option Int32 := (if l2 = (1 : Int32) then (if l1 = (0 : Int32) then some (-1 : Int32) else some (w 0 8)) else some (w 0 8))
def m_faultOf_b131 (l1 : Int32) (l2 : Int32) (l3 : Int32) (l4 : Int32) (w : Wt) : Option ((Int32 × Int32 × Int32) ⊕ ((Int32 × Int32) ⊕ Int32)) := Option.bind (m_isFigure l4) fun x3 => (if x3 = (0 : Int32) then some (.inr (.inr l3)) else (if l2 = (3 : Int32) then some (.inl (l1, (4 : Int32), (l3 + 1))) else some (.inl (l1, (2 : Int32), (l3 + 1)))))
def m_faultOf_b121 (l1 : Int32) (l2 : Int32) (l3 : Int32) (l4 : Int32) (w : Wt) : Option ((Int32 × Int32 × Int32) ⊕ ((Int32 × Int32) ⊕ Int32)) := (if l2 = (3 : Int32) then m_faultOf_b131 l1 l2 l3 l4 w else (if l2 = (4 : Int32) then m_faultOf_b131 l1 l2 l3 l4 w else some (.inr (.inr l3))))
def m_faultOf_b109 (l1 : Int32) (l2 : Int32) (l3 : Int32) (l4 : Int32) (w : Wt) : Option ((Int32 × Int32 × Int32) ⊕ ((Int32 × Int32) ⊕ Int32)) := (if l4 = (59 : Int32) then some (.inl (l1, (1 : Int32), (l3 + 1))) else m_faultOf_b121 l1 l2 l3 l4 w)
def m_faultOf_b99 (l1 : Int32) (l2 : Int32) (l3 : Int32) (l4 : Int32) (w : Wt) : Option ((Int32 × Int32 × Int32) ⊕ ((Int32 × Int32) ⊕ Int32)) := (if l2 = (2 : Int32) then m_faultOf_b109 l1 l2 l3 l4 w else (if l2 = (4 : Int32) then m_faultOf_b109 l1 l2 l3 l4 w else m_faultOf_b121 l1 l2 l3 l4 w))
def m_faultOf_b77 (l1 : Int32) (l2 : Int32) (l3 : Int32) (l4 : Int32) (w : Wt) : Option ((Int32 × Int32 × Int32) ⊕ ((Int32 × Int32) ⊕ Int32)) := (if l2 = (1 : Int32) then (if l4 = (41 : Int32) then (if l1 ≤ (0 : Int32) then m_faultOf_b99 l1 l2 l3 l4 w else some (.inl ((l1 + (-1)), l2, (l3 + 1)))) else m_faultOf_b99 l1 l2 l3 l4 w) else m_faultOf_b99 l1 l2 l3 l4 w)
def m_faultOf_b57 (l1 : Int32) (l2 : Int32) (l3 : Int32) (l4 : Int32) (w : Wt) : Option ((Int32 × Int32 × Int32) ⊕ ((Int32 × Int32) ⊕ Int32)) := (if (2 : Int32) ≤ l2 then m_faultOf_b77 l1 l2 l3 l4 w else (if l4 = (40 : Int32) then some (.inl ((l1 + 1), (0 : Int32), (l3 + 1))) else m_faultOf_b77 l1 l2 l3 l4 w))
def m_faultOf_b40 (l1 : Int32) (l2 : Int32) (l3 : Int32) (l4 : Int32) (w : Wt) : Option ((Int32 × Int32 × Int32) ⊕ ((Int32 × Int32) ⊕ Int32)) := (if (2 : Int32) ≤ l2 then m_faultOf_b57 l1 l2 l3 l4 w else (if l4 = (101 : Int32) then some (.inl (l1, (3 : Int32), (l3 + 1))) else m_faultOf_b57 l1 l2 l3 l4 w))
def m_faultOf_L6 (w : Wt) : (Int32 × Int32 × Int32) → Option ((Int32 × Int32 × Int32) ⊕ ((Int32 × Int32) ⊕ Int32))
  | (l1, l2, l3) => (if (w 0 8) ≤ l3 then some (.inr (.inl (l1, l2))) else gd (inb l3 24) (nmd (w 6 (l3).toNatClampNeg) fun v20 => (if (2 : Int32) ≤ l2 then m_faultOf_b40 l1 l2 l3 v20 w else Option.bind (m_isPlain v20) fun x22 => (if x22 = (0 : Int32) then m_faultOf_b40 l1 l2 l3 v20 w else some (.inl (l1, (2 : Int32), (l3 + 1)))))))
def m_faultOf_x6 (w : Wt) : ((Int32 × Int32) ⊕ Int32) → Option Int32
  | .inl (l1, l2) => m_faultOf_b161 l1 l2 w
  | .inr t => some t
def m_faultOf (w : Wt) : Option Int32 := Option.bind (lp (m_faultOf_L6 w) FU ((0 : Int32), (0 : Int32), (0 : Int32))) (m_faultOf_x6 w)
def m_fault (w : Wt) : Option (Int32 × Wt) := nmd (upd2 w 0 45 (0 : Int32)) fun w1 => Option.bind (m_faultOf w1) fun x2 => some (x2, w1)
def m_writes_b43 (w : Wt) : Option Wt := some w
def m_writes_L12 (l1 : Int32) : (Int32 × Wt) → Option ((Int32 × Wt) ⊕ Wt)
  | (l2, w) => (if (w 0 8) ≤ l2 then some (.inr w) else gd (inb l2 24) (gd (inb (((24 : Int32) * l1) + l2) 192) (nmd (upd2 w 7 ((((24 : Int32) * l1) + l2)).toNatClampNeg (w 6 (l2).toNatClampNeg)) fun w4 => some (.inl ((l2 + 1), w4)))))
def m_writes_x12 : Wt → Option Wt
  | w => m_writes_b43 w
def m_writes (a1 : Int32) (w : Wt) : Option Wt := gd (inb a1 8) (nmd (upd2 w 8 (a1).toNatClampNeg (w 0 8)) fun w6 => Option.bind (lp (m_writes_L12 a1) FU ((0 : Int32), w6)) (m_writes_x12))
def m_rule_b28 (t0 : Int32) (t1 : Int32) (w : Wt) : Option (Int32 × Wt) := Option.bind (m_goes t1 t0 (1 : Int32) w) fun x1 => (if x1.1 = (0 : Int32) then some ((0 : Int32), x1.2) else Option.bind (m_writes (x1.2 0 11) x1.2) fun x3 => nmd (upd2 x3 0 11 ((x3 0 11) + (1 : Int32))) fun w4 => some (((w4 0 11) - (1 : Int32)), w4))
def m_rule_b14 (t0 : Int32) (w : Wt) : Option (Int32 × Wt) := (if (8 : Int32) ≤ (w 0 11) then m_rule_b28 (0 : Int32) t0 w else m_rule_b28 (1 : Int32) t0 w)
def m_rule (w : Wt) : Option (Int32 × Wt) := Option.bind (m_faultOf w) fun x6 => (if x6 = (-1 : Int32) then m_rule_b14 (1 : Int32) w else m_rule_b14 (0 : Int32) w)
def m_has (a0 : Int32) (a1 : Int32) : Option Int32 := (if ((a0 >>> (a1 &&& 31)) &&& (1 : Int32)) = (1 : Int32) then some (1 : Int32) else some (0 : Int32))
def m_size_b24 (l1 : Int32) : Option Int32 := some l1
def m_size_L4 (l0 : Int32) : (Int32 × Int32) → Option ((Int32 × Int32) ⊕ Int32)
  | (l1, l2) => (if (6 : Int32) ≤ l2 then some (.inr l1) else nmd (l1 + ((l0 >>> (l2 &&& 31)) &&& (1 : Int32))) fun v2 => some (.inl (v2, (l2 + 1))))
def m_size_x4 : Int32 → Option Int32
  | l1 => m_size_b24 l1
def m_size (a0 : Int32) : Option Int32 := Option.bind (lp (m_size_L4 a0) FU ((0 : Int32), (0 : Int32))) (m_size_x4)
def m_votesIn (a1 : Int32) (a2 : Int32) (w : Wt) : Option Int32 := (if (0 : Int32) ≤ a1 then gd (inb (((6 : Int32) * a1) + a2) 2400) (some (w 25 ((((6 : Int32) * a1) + a2)).toNatClampNeg)) else some (0 : Int32))
def m_extreme_b120 (l4 : Int32) (w : Wt) : Option Int32 := some l4
def m_extreme_b98 (l1 : Int32) (l2 : Int32) (l3 : Int32) (l5 : Int32) (l6 : Int32) (l7 : Int32) (l8 : Int32) (t0 : Int32) (w : Wt) : Option ((Int32 × Int32 × Int32) ⊕ Int32) := (if l8 = (0 : Int32) then some (.inl (t0, l5, (l6 + 1))) else some (.inl (t0, l7, (l6 + 1))))
def m_extreme_b65 (l1 : Int32) (l2 : Int32) (l3 : Int32) (l4 : Int32) (l5 : Int32) (l6 : Int32) (l7 : Int32) (t0 : Int32) (w : Wt) : Option ((Int32 × Int32 × Int32) ⊕ Int32) := (if t0 = (0 : Int32) then (if l7 = l5 then m_extreme_b98 l1 l2 l3 l5 l6 l7 t0 (l4 ||| ((1 : Int32) <<< (l6 &&& 31))) w else m_extreme_b98 l1 l2 l3 l5 l6 l7 t0 l4 w) else m_extreme_b98 l1 l2 l3 l5 l6 l7 t0 ((1 : Int32) <<< (l6 &&& 31)) w)
def m_extreme_b64 (l1 : Int32) (l2 : Int32) (l3 : Int32) (l4 : Int32) (l5 : Int32) (l6 : Int32) (l7 : Int32) (w : Wt) : Option ((Int32 × Int32 × Int32) ⊕ Int32) := m_extreme_b65 l1 l2 l3 l4 l5 l6 l7 (0 : Int32) w
def m_extreme_b60 (l1 : Int32) (l2 : Int32) (l3 : Int32) (l4 : Int32) (l5 : Int32) (l6 : Int32) (l7 : Int32) (w : Wt) : Option ((Int32 × Int32 × Int32) ⊕ Int32) := m_extreme_b65 l1 l2 l3 l4 l5 l6 l7 (1 : Int32) w
def m_extreme_L9 (l1 : Int32) (l2 : Int32) (l3 : Int32) (w : Wt) : (Int32 × Int32 × Int32) → Option ((Int32 × Int32 × Int32) ⊕ Int32)
  | (l4, l5, l6) => (if (6 : Int32) ≤ l6 then some (.inr l4) else Option.bind (m_has l1 l6) fun x5 => (if x5 = (0 : Int32) then some (.inl (l4, l5, (l6 + 1))) else Option.bind (m_votesIn l2 l6 w) fun x7 => (if l4 = (0 : Int32) then m_extreme_b60 l1 l2 l3 l4 l5 l6 x7 w else (if l3 = (0 : Int32) then (if l5 ≤ x7 then m_extreme_b64 l1 l2 l3 l4 l5 l6 x7 w else m_extreme_b60 l1 l2 l3 l4 l5 l6 x7 w) else (if x7 ≤ l5 then m_extreme_b64 l1 l2 l3 l4 l5 l6 x7 w else m_extreme_b60 l1 l2 l3 l4 l5 l6 x7 w)))))
def m_extreme_x9 (w : Wt) : Int32 → Option Int32
  | l4 => m_extreme_b120 l4 w
def m_extreme (a1 : Int32) (a2 : Int32) (a3 : Int32) (w : Wt) : Option Int32 := Option.bind (lp (m_extreme_L9 a1 a2 a3 w) FU ((0 : Int32), (0 : Int32), (0 : Int32))) (m_extreme_x9 w)
def m_chosen_b131 (l3 : Int32) (w : Wt) : Option (Int32 × Wt) := some (l3, w)
def m_chosen_L90 (l2 : Int32) (w : Wt) : (Int32 × Int32) → Option ((Int32 × Int32) ⊕ Int32)
  | (l3, l4) => (if (6 : Int32) ≤ l4 then some (.inr l3) else Option.bind (m_has l2 l4) fun x2 => (if x2 = (0 : Int32) then some (.inl (l3, (l4 + 1))) else (if l3 < (0 : Int32) then some (.inl (l4, (l4 + 1))) else (if (w 0 39) = (1 : Int32) then some (.inl (l4, (l4 + 1))) else some (.inl (l3, (l4 + 1)))))))
def m_chosen_x90 (w : Wt) : Int32 → Option (Int32 × Wt)
  | l3 => m_chosen_b131 l3 w
def m_chosen_b85 (l2 : Int32) (w : Wt) : Option (Int32 × Wt) := Option.bind (lp (m_chosen_L90 l2 w) FU ((-1 : Int32), (0 : Int32))) (m_chosen_x90 w)
def m_chosen_L51 (l1 : Int32) (w : Wt) : (Int32 × Int32) → Option ((Int32 × Int32) ⊕ Int32)
  | (l2, l3) => (if l3 < (0 : Int32) then some (.inr l2) else (if (w 0 39) = (2 : Int32) then Option.bind (m_size l2) fun x8 => (if x8 ≤ (1 : Int32) then some (.inr l2) else Option.bind (m_extreme l2 l3 l1 w) fun x10 => some (.inl (x10, (l3 + (-1))))) else some (.inr l2)))
def m_chosen_x51 (w : Wt) : Int32 → Option (Int32 × Wt)
  | l2 => m_chosen_b85 l2 w
def m_chosen_b44 (l1 : Int32) (l2 : Int32) (w : Wt) : Option (Int32 × Wt) := nmd ((w 0 32) - (2 : Int32)) fun v11 => Option.bind (lp (m_chosen_L51 l1 w) FU (l2, v11)) (m_chosen_x51 w)
def m_chosen (a1 : Int32) (w : Wt) : Option (Int32 × Wt) := Option.bind (m_extreme (w 0 36) ((w 0 32) - (1 : Int32)) a1 w) fun x12 => Option.bind (m_size x12) fun x13 => (if x13 ≤ (1 : Int32) then m_chosen_b44 a1 x12 w else gd (inb (w 0 35) 800) (nmd (upd2 w 26 ((w 0 35)).toNatClampNeg x12) fun w16 => nmd (upd2 w16 0 35 ((w16 0 35) + (1 : Int32))) fun w17 => m_chosen_b44 a1 x12 w17))
def m_elects (a1 : Int32) (w : Wt) : Option Wt := nmd (upd2 w 0 36 ((w 0 36) &&& (((1 : Int32) <<< (a1 &&& 31)) ^^^ (-1 : Int32)))) fun w1 => nmd (upd2 w1 0 37 ((w1 0 37) ||| ((1 : Int32) <<< (a1 &&& 31)))) fun w2 => nmd (upd2 w2 0 38 ((w2 0 38) - (1 : Int32))) fun w3 => nmd (upd2 w3 0 40 ((w3 0 40) + (1 : Int32))) fun w4 => some w4
def m_readAt_b21 (l1 : Int32) (t0 : Int32) (w : Wt) : Option Int32 := gd (inb (((6 : Int32) * l1) + t0) 600) (some (w 17 ((((6 : Int32) * l1) + t0)).toNatClampNeg))
def m_readAt_b20 (l1 : Int32) (l2 : Int32) (w : Wt) : Option Int32 := m_readAt_b21 l1 l2 w
def m_readAt (a1 : Int32) (a2 : Int32) (w : Wt) : Option Int32 := gd (inb a1 100) ((if (w 22 (a1).toNatClampNeg) = (0 : Int32) then m_readAt_b20 a1 a2 w else (if (2 : Int32) ≤ a2 then m_readAt_b20 a1 a2 w else m_readAt_b21 a1 ((1 : Int32) - a2) w)))
def m_makesTally_b200 (w : Wt) : Option Wt := nmd (upd2 w 0 32 ((w 0 32) + (1 : Int32))) fun w1 => some w1
def m_makesTally_b175 (l1 : Int32) (l2 : Int32) (l3 : Int32) (l4 : Int32) (l5 : Int32) (w : Wt) : Option ((Int32 × Wt) ⊕ Wt) := (if l5 ≤ (0 : Int32) then nmd (upd2 w 0 33 ((w 0 33) + (0 : Int32))) fun w3 => some (.inl ((l4 + 1), w3)) else nmd (upd2 w 0 33 ((w 0 33) + (1 : Int32))) fun w4 => some (.inl ((l4 + 1), w4)))
def m_makesTally_L81 (l1 : Int32) (l2 : Int32) (l3 : Int32) (l4 : Int32) : (Int32 × Int32 × Wt) → Option ((Int32 × Int32 × Wt) ⊕ (Int32 × Wt))
  | (l5, l6, w) => gd (inb l4 100) ((if (w 18 (l4).toNatClampNeg) ≤ l6 then some (.inr (l5, w)) else gd (inb l4 100) ((if (w 24 (l4).toNatClampNeg) = (0 : Int32) then some (.inr (l5, w)) else Option.bind (m_readAt l4 l6 w) fun x9 => Option.bind (m_has (w 0 36) x9) fun x10 => (if x10 = (0 : Int32) then some (.inl (l5, (l6 + 1), w)) else gd (inb (l2 + x9) 2400) ((if l1 = (98 : Int32) then gd (inb (l2 + x9) 2400) (nmd (upd2 w 25 ((l2 + x9)).toNatClampNeg ((w 25 ((l2 + x9)).toNatClampNeg) + (l3 - l5))) fun w23 => some (.inl ((l5 + 1), (l6 + 1), w23))) else (if l1 = (97 : Int32) then gd (inb (l2 + x9) 2400) (nmd (upd2 w 25 ((l2 + x9)).toNatClampNeg ((w 25 ((l2 + x9)).toNatClampNeg) + (1 : Int32))) fun w16 => some (.inl ((l5 + 1), (l6 + 1), w16))) else (if l5 = (0 : Int32) then gd (inb (l2 + x9) 2400) (nmd (upd2 w 25 ((l2 + x9)).toNatClampNeg ((w 25 ((l2 + x9)).toNatClampNeg) + (1 : Int32))) fun w21 => some (.inl ((l5 + 1), (l6 + 1), w21))) else gd (inb (l2 + x9) 2400) (nmd (upd2 w 25 ((l2 + x9)).toNatClampNeg ((w 25 ((l2 + x9)).toNatClampNeg) + (0 : Int32))) fun w19 => some (.inl ((l5 + 1), (l6 + 1), w19))))))))))))
def m_makesTally_x81 (l1 : Int32) (l2 : Int32) (l3 : Int32) (l4 : Int32) : (Int32 × Wt) → Option ((Int32 × Wt) ⊕ Wt)
  | (l5, w) => m_makesTally_b175 l1 l2 l3 l4 l5 w
def m_makesTally_L66 (l1 : Int32) (l2 : Int32) (l3 : Int32) : (Int32 × Wt) → Option ((Int32 × Wt) ⊕ Wt)
  | (l4, w) => (if (w 0 27) ≤ l4 then some (.inr w) else Option.bind (lp (m_makesTally_L81 l1 l2 l3 l4) FU ((0 : Int32), (0 : Int32), w)) (m_makesTally_x81 l1 l2 l3 l4))
def m_makesTally_x66 : Wt → Option Wt
  | w => m_makesTally_b200 w
def m_makesTally_b58 (l1 : Int32) (l2 : Int32) (l3 : Int32) (w : Wt) : Option Wt := nmd (upd2 w 0 33 (0 : Int32)) fun w25 => Option.bind (lp (m_makesTally_L66 l1 l2 l3) FU ((0 : Int32), w25)) (m_makesTally_x66)
def m_makesTally_L19 (l1 : Int32) (l2 : Int32) (l3 : Int32) : (Int32 × Wt) → Option ((Int32 × Wt) ⊕ Wt)
  | (l4, w) => (if (6 : Int32) ≤ l4 then some (.inr w) else Option.bind (m_has (w 0 36) l4) fun x27 => (if x27 = (0 : Int32) then gd (inb (l2 + l4) 2400) (nmd (upd2 w 25 ((l2 + l4)).toNatClampNeg (-1 : Int32)) fun w30 => some (.inl ((l4 + 1), w30))) else gd (inb (l2 + l4) 2400) (nmd (upd2 w 25 ((l2 + l4)).toNatClampNeg (0 : Int32)) fun w32 => some (.inl ((l4 + 1), w32)))))
def m_makesTally_x19 (l1 : Int32) (l2 : Int32) (l3 : Int32) : Wt → Option Wt
  | w => m_makesTally_b58 l1 l2 l3 w
def m_makesTally (a1 : Int32) (w : Wt) : Option Wt := nmd ((6 : Int32) * (w 0 32)) fun v33 => Option.bind (m_size (w 0 36)) fun x34 => Option.bind (lp (m_makesTally_L19 a1 v33 x34) FU ((0 : Int32), w)) (m_makesTally_x19 a1 v33 x34)
def m_does_b177 (w : Wt) : Option Wt := some w
def m_does_L145 (l1 : Int32) : Wt → Option (Wt ⊕ Wt)
  | w => (if l1 = (114 : Int32) then (if (w 0 38) ≤ (0 : Int32) then some (.inr w) else (if (w 0 36) = (0 : Int32) then some (.inr w) else Option.bind (m_chosen (1 : Int32) w) fun x4 => Option.bind (m_elects x4.1 x4.2) fun x5 => some (.inl x5))) else some (.inr w))
def m_does_x145 : Wt → Option Wt
  | w => m_does_b177 w
def m_does_b142 (l1 : Int32) (t0 : Int32) (w : Wt) : Option Wt := nmd (upd2 w 0 39 t0) fun w6 => Option.bind (lp (m_does_L145 l1) FU w6) (m_does_x145)
def m_does_b120 (l1 : Int32) (w : Wt) : Option Wt := (if l1 = (108 : Int32) then m_does_b142 l1 (0 : Int32) w else (if l1 = (104 : Int32) then m_does_b142 l1 (1 : Int32) w else m_does_b142 l1 (2 : Int32) w))
def m_does_b102 (l1 : Int32) (w : Wt) : Option Wt := (if l1 = (108 : Int32) then m_does_b120 l1 w else (if l1 = (104 : Int32) then m_does_b120 l1 w else (if l1 = (113 : Int32) then m_does_b120 l1 w else Option.bind (lp (m_does_L145 l1) FU w) (m_does_x145))))
def m_does_b51 (l1 : Int32) (w : Wt) : Option Wt := (if l1 = (120 : Int32) then Option.bind (m_size (w 0 36)) fun x13 => (if x13 ≤ (w 0 38) then m_does_b102 l1 w else Option.bind (m_chosen (0 : Int32) w) fun x15 => nmd (upd2 x15.2 0 36 ((w 0 36) &&& (((1 : Int32) <<< (x15.1 &&& 31)) ^^^ (-1 : Int32)))) fun w16 => nmd (upd2 w16 0 40 ((w16 0 40) + (1 : Int32))) fun w17 => Option.bind (lp (m_does_L145 l1) FU w17) (m_does_x145)) else m_does_b102 l1 w)
def m_does_b18 (l1 : Int32) (w : Wt) : Option Wt := Option.bind (m_makesTally l1 w) fun x18 => Option.bind (lp (m_does_L145 l1) FU x18) (m_does_x145)
def m_does (a1 : Int32) (w : Wt) : Option Wt := (if a1 = (116 : Int32) then m_does_b18 a1 w else (if a1 = (98 : Int32) then m_does_b18 a1 w else (if a1 = (97 : Int32) then m_does_b18 a1 w else (if a1 = (109 : Int32) then (if (w 0 36) = (0 : Int32) then m_does_b51 a1 w else Option.bind (m_chosen (1 : Int32) w) fun x24 => Option.bind (m_elects x24.1 x24.2) fun x25 => Option.bind (lp (m_does_L145 a1) FU x25) (m_does_x145)) else m_does_b51 a1 w))))
def m_electsAbove_b91 (w : Wt) : Option Wt := some w
def m_electsAbove_b75 (l1 : Int32) (l2 : Int32) (l4 : Int32) (t0 : Int32) (w : Wt) : Option ((Int32 × Wt) ⊕ Wt) := nmd (upd2 w 0 35 t0) fun w1 => (if l2 = (0 : Int32) then some (.inl (l2, w1)) else Option.bind (m_elects l4 w1) fun x3 => some (.inl (l2, x3)))
def m_electsAbove_b61 (l1 : Int32) (l3 : Int32) (l4 : Int32) (t0 : Int32) (w : Wt) : Option ((Int32 × Wt) ⊕ Wt) := (if t0 = (0 : Int32) then m_electsAbove_b75 l1 t0 l4 l3 w else m_electsAbove_b75 l1 t0 l4 (w 0 35) w)
def m_electsAbove_L2 (l1 : Int32) : (Int32 × Wt) → Option ((Int32 × Wt) ⊕ Wt)
  | (l2, w) => (if l2 = (0 : Int32) then some (.inr w) else (if (w 0 38) ≤ (0 : Int32) then some (.inr w) else (if (w 0 36) = (0 : Int32) then some (.inr w) else nmd (w 0 35) fun v8 => Option.bind (m_chosen (1 : Int32) w) fun x9 => nmd x9.1 fun v10 => Option.bind (m_votesIn ((x9.2 0 32) - (1 : Int32)) v10 x9.2) fun x11 => (if ((100 : Int32) * x11) ≤ (l1 * (x9.2 0 33)) then m_electsAbove_b61 l1 v8 v10 (0 : Int32) x9.2 else m_electsAbove_b61 l1 v8 v10 (1 : Int32) x9.2))))
def m_electsAbove_x2 : Wt → Option Wt
  | w => m_electsAbove_b91 w
def m_electsAbove (a1 : Int32) (w : Wt) : Option Wt := Option.bind (lp (m_electsAbove_L2 a1) FU ((1 : Int32), w)) (m_electsAbove_x2)
def m_goesOn_b190 (l3 : Int32) (l4 : Int32) (l5 : Int32) (w : Wt) : Option (Int32 × Wt) := (if l3 = (101 : Int32) then Option.bind (m_electsAbove l5 w) fun x3 => some ((l4 + (1 : Int32)), x3) else Option.bind (m_does l3 w) fun x2 => some ((l4 + (1 : Int32)), x2))
def m_goesOn_L150 (l1 : Int32) (l3 : Int32) (w : Wt) : (Int32 × Int32) → Option ((Int32 × Int32) ⊕ (Int32 × Int32))
  | (l4, l5) => gd (inb (l1 + l4) 192) ((if (w 7 ((l1 + l4)).toNatClampNeg) = (59 : Int32) then some (.inr (l4, l5)) else gd (inb (l1 + l4) 192) (nmd ((((10 : Int32) * l5) + (w 7 ((l1 + l4)).toNatClampNeg)) - (48 : Int32)) fun v7 => some (.inl ((l4 + 1), v7)))))
def m_goesOn_x150 (l3 : Int32) (w : Wt) : (Int32 × Int32) → Option (Int32 × Wt)
  | (l4, l5) => m_goesOn_b190 l3 l4 l5 w
def m_goesOn_b115 (l2 : Int32) (l4 : Int32) (t0 : Int32) (t1 : Int32) (w : Wt) : Option (Int32 × Wt) := nmd (upd2 w 0 43 (t1 - t0)) fun w8 => (if l4 = (0 : Int32) then some ((l2 + (1 : Int32)), w8) else gd (inb ((w8 0 43) - (1 : Int32)) 24) (some ((w8 27 (((w8 0 43) - (1 : Int32))).toNatClampNeg), w8)))
def m_goesOn_b83 (l2 : Int32) (t0 : Int32) (w : Wt) : Option (Int32 × Wt) := gd (inb ((w 0 43) - (1 : Int32)) 24) (nmd (upd2 w 28 (((w 0 43) - (1 : Int32))).toNatClampNeg (w 0 40)) fun w12 => (if t0 = (0 : Int32) then m_goesOn_b115 l2 t0 (1 : Int32) (w12 0 43) w12 else m_goesOn_b115 l2 t0 (0 : Int32) (w12 0 43) w12))
def m_goesOn (a1 : Int32) (a2 : Int32) (w : Wt) : Option (Int32 × Wt) := gd (inb (a1 + a2) 192) (nmd (w 7 ((a1 + a2)).toNatClampNeg) fun v15 => (if v15 = (40 : Int32) then gd (inb (w 0 43) 24) (nmd (upd2 w 27 ((w 0 43)).toNatClampNeg (a2 + (1 : Int32))) fun w22 => gd (inb (w22 0 43) 24) (nmd (upd2 w22 28 ((w22 0 43)).toNatClampNeg (w22 0 40)) fun w24 => nmd (upd2 w24 0 43 ((w24 0 43) + (1 : Int32))) fun w25 => some ((a2 + (1 : Int32)), w25))) else (if v15 = (41 : Int32) then gd (inb ((w 0 43) - (1 : Int32)) 24) ((if (w 0 40) ≤ (w 28 (((w 0 43) - (1 : Int32))).toNatClampNeg) then m_goesOn_b83 a2 (0 : Int32) w else m_goesOn_b83 a2 (1 : Int32) w)) else nmd (a2 + (1 : Int32)) fun v18 => Option.bind (lp (m_goesOn_L150 a1 v15 w) FU (v18, (0 : Int32))) (m_goesOn_x150 v15 w))))
def m_winnersOf_b146 (w : Wt) : Option (Int32 × Wt) := some ((w 0 37), w)
def m_winnersOf_L106 (l1 : Int32) : (Int32 × Wt) → Option ((Int32 × Wt) ⊕ Wt)
  | (l2, w) => gd (inb l1 8) (gd (inb (w 12 (l1).toNatClampNeg) 8) ((if (w 8 ((w 12 (l1).toNatClampNeg)).toNatClampNeg) ≤ l2 then some (.inr w) else (if (w 0 38) ≤ (0 : Int32) then some (.inr w) else gd (inb l1 8) (Option.bind (m_goesOn ((24 : Int32) * (w 12 (l1).toNatClampNeg)) l2 w) fun x6 => nmd x6.1 fun v7 => some (.inl (v7, x6.2)))))))
def m_winnersOf_x106 : Wt → Option (Int32 × Wt)
  | w => m_winnersOf_b146 w
def m_winnersOf_b104 (l1 : Int32) (w : Wt) : Option (Int32 × Wt) := Option.bind (lp (m_winnersOf_L106 l1) FU ((0 : Int32), w)) (m_winnersOf_x106)
def m_winnersOf_L61 (l1 : Int32) : (Int32 × Wt) → Option ((Int32 × Wt) ⊕ Wt)
  | (l2, w) => (if (w 0 27) ≤ l2 then some (.inr w) else gd (inb l2 100) ((if (w 19 (l2).toNatClampNeg) = l1 then Option.bind (m_reason l2 w) fun x13 => (if x13 = (0 : Int32) then gd (inb l2 100) (nmd (upd2 w 24 (l2).toNatClampNeg (vp_nar .boolean (1 : Int32))) fun w18 => some (.inl ((l2 + 1), w18))) else gd (inb l2 100) (nmd (upd2 w 24 (l2).toNatClampNeg (vp_nar .boolean (0 : Int32))) fun w16 => some (.inl ((l2 + 1), w16)))) else gd (inb l2 100) (nmd (upd2 w 24 (l2).toNatClampNeg (vp_nar .boolean (0 : Int32))) fun w12 => some (.inl ((l2 + 1), w12))))))
def m_winnersOf_x61 (l1 : Int32) : Wt → Option (Int32 × Wt)
  | w => m_winnersOf_b104 l1 w
def m_winnersOf (a1 : Int32) (w : Wt) : Option (Int32 × Wt) := nmd (upd2 w 0 32 (0 : Int32)) fun w19 => nmd (upd2 w19 0 35 (0 : Int32)) fun w20 => nmd (upd2 w20 0 33 (0 : Int32)) fun w21 => gd (inb a1 8) (nmd (upd2 w21 0 36 (((1 : Int32) <<< ((w21 10 (a1).toNatClampNeg) &&& 31)) - (1 : Int32))) fun w23 => nmd (upd2 w23 0 37 (0 : Int32)) fun w24 => gd (inb a1 8) (nmd (upd2 w24 0 38 (w24 11 (a1).toNatClampNeg)) fun w26 => nmd (upd2 w26 0 39 (0 : Int32)) fun w27 => nmd (upd2 w27 0 40 (0 : Int32)) fun w28 => nmd (upd2 w28 0 43 (0 : Int32)) fun w29 => Option.bind (lp (m_winnersOf_L61 a1) FU ((0 : Int32), w29)) (m_winnersOf_x61 a1)))
def m_mend_b103 (l2 : Int32) (w : Wt) : Option (Int32 × Wt) := some (l2, w)
def m_mend_L67 : (Int32 × Int32 × Wt) → Option ((Int32 × Int32 × Wt) ⊕ (Int32 × Wt))
  | (l2, l3, w) => (if (w 0 20) ≤ l3 then some (.inr (l2, w)) else gd (inb l3 8) (Option.bind (m_winnersOf l3 w) fun x3 => (if (w 29 (l3).toNatClampNeg) = x3.1 then nmd (l2 + (0 : Int32)) fun v5 => some (.inl (v5, (l3 + 1), x3.2)) else nmd (l2 + (1 : Int32)) fun v6 => some (.inl (v6, (l3 + 1), x3.2)))))
def m_mend_x67 : (Int32 × Wt) → Option (Int32 × Wt)
  | (l2, w) => m_mend_b103 l2 w
def m_mend_b58 (l1 : Int32) (w : Wt) : Option (Int32 × Wt) := Option.bind (m_writes l1 w) fun x7 => Option.bind (lp (m_mend_L67) FU ((0 : Int32), (0 : Int32), x7)) (m_mend_x67)
def m_mend_L33 (l1 : Int32) : (Int32 × Wt) → Option ((Int32 × Wt) ⊕ Wt)
  | (l2, w) => (if (w 0 20) ≤ l2 then some (.inr w) else Option.bind (m_winnersOf l2 w) fun x9 => gd (inb l2 8) (nmd (upd2 x9.2 29 (l2).toNatClampNeg x9.1) fun w11 => some (.inl ((l2 + 1), w11))))
def m_mend_x33 (l1 : Int32) : Wt → Option (Int32 × Wt)
  | w => m_mend_b58 l1 w
def m_mend_b22 (l1 : Int32) (t0 : Int32) (t1 : Int32) (w : Wt) : Option (Int32 × Wt) := Option.bind (m_goes t1 t0 (1 : Int32) w) fun x12 => (if x12.1 = (0 : Int32) then some ((0 : Int32), x12.2) else Option.bind (lp (m_mend_L33 l1) FU ((0 : Int32), x12.2)) (m_mend_x33 l1))
def m_mend (a1 : Int32) (w : Wt) : Option (Int32 × Wt) := Option.bind (m_isBelow a1 (w 0 11)) fun x14 => Option.bind (m_faultOf w) fun x15 => (if x15 = (-1 : Int32) then m_mend_b22 a1 (1 : Int32) x14 w else m_mend_b22 a1 (0 : Int32) x14 w)
def m_commands_b63 (l2 : Int32) (w : Wt) : Option (Int32 × Wt) := some (l2, w)
def m_commands_L23 (l1 : Int32) (w : Wt) : (Int32 × Int32) → Option ((Int32 × Int32) ⊕ Int32)
  | (l2, l3) => gd (inb l1 8) ((if (w 8 (l1).toNatClampNeg) ≤ l3 then some (.inr l2) else gd (inb (((24 : Int32) * l1) + l3) 192) ((if (w 7 ((((24 : Int32) * l1) + l3)).toNatClampNeg) = (59 : Int32) then nmd (l2 + (1 : Int32)) fun v6 => some (.inl (v6, (l3 + 1))) else nmd (l2 + (0 : Int32)) fun v5 => some (.inl (v5, (l3 + 1)))))))
def m_commands_x23 (w : Wt) : Int32 → Option (Int32 × Wt)
  | l2 => m_commands_b63 l2 w
def m_commands (a1 : Int32) (w : Wt) : Option (Int32 × Wt) := Option.bind (m_isBelow a1 (w 0 11)) fun x7 => Option.bind (m_goes x7 (1 : Int32) (1 : Int32) w) fun x8 => (if x8.1 = (0 : Int32) then some ((0 : Int32), x8.2) else Option.bind (lp (m_commands_L23 a1 x8.2) FU ((0 : Int32), (0 : Int32))) (m_commands_x23 x8.2))
def m_open_b69 (l1 : Int32) (l2 : Int32) (l3 : Int32) (l4 : Int32) (t0 : Int32) (t1 : Int32) (t2 : Int32) (w : Wt) : Option (Int32 × Wt) := Option.bind (m_goes t2 t1 t0 w) fun x1 => (if x1.1 = (0 : Int32) then some ((0 : Int32), x1.2) else gd (inb (x1.2 0 20) 8) (nmd (upd2 x1.2 9 ((x1.2 0 20)).toNatClampNeg l1) fun w4 => gd (inb (w4 0 20) 8) (nmd (upd2 w4 10 ((w4 0 20)).toNatClampNeg l2) fun w6 => gd (inb (w6 0 20) 8) (nmd (upd2 w6 11 ((w6 0 20)).toNatClampNeg l3) fun w8 => gd (inb (w8 0 20) 8) (nmd (upd2 w8 12 ((w8 0 20)).toNatClampNeg l4) fun w10 => gd (inb (w10 0 20) 8) (nmd (upd2 w10 14 ((w10 0 20)).toNatClampNeg (-1 : Int32)) fun w12 => nmd (upd2 w12 0 20 ((w12 0 20) + (1 : Int32))) fun w13 => some (((w13 0 20) - (1 : Int32)), w13)))))))
def m_open_b53 (l1 : Int32) (l2 : Int32) (l3 : Int32) (l4 : Int32) (l5 : Int32) (t0 : Int32) (w : Wt) : Option (Int32 × Wt) := (if (8 : Int32) ≤ (w 0 20) then m_open_b69 l1 l2 l3 l4 (0 : Int32) l5 t0 w else m_open_b69 l1 l2 l3 l4 (1 : Int32) l5 t0 w)
def m_open_b52 (l1 : Int32) (l2 : Int32) (l3 : Int32) (l4 : Int32) (l5 : Int32) (w : Wt) : Option (Int32 × Wt) := m_open_b53 l1 l2 l3 l4 l5 (0 : Int32) w
def m_open_b25 (l1 : Int32) (l2 : Int32) (l3 : Int32) (l4 : Int32) (t0 : Int32) (w : Wt) : Option (Int32 × Wt) := Option.bind (m_isBelow l1 (3 : Int32)) fun x15 => (if x15 = (0 : Int32) then m_open_b52 l1 l2 l3 l4 t0 w else Option.bind (m_isBelow l4 (w 0 11)) fun x17 => (if x17 = (0 : Int32) then m_open_b52 l1 l2 l3 l4 t0 w else m_open_b53 l1 l2 l3 l4 t0 (1 : Int32) w))
def m_open_b24 (l1 : Int32) (l2 : Int32) (l3 : Int32) (l4 : Int32) (w : Wt) : Option (Int32 × Wt) := m_open_b25 l1 l2 l3 l4 (0 : Int32) w
def m_open (a1 : Int32) (a2 : Int32) (a3 : Int32) (a4 : Int32) (w : Wt) : Option (Int32 × Wt) := Option.bind (m_isWithin a2 (2 : Int32) (6 : Int32)) fun x19 => (if x19 = (0 : Int32) then m_open_b24 a1 a2 a3 a4 w else (if a3 < (1 : Int32) then m_open_b24 a1 a2 a3 a4 w else (if a2 ≤ a3 then m_open_b24 a1 a2 a3 a4 w else m_open_b25 a1 a2 a3 a4 (1 : Int32) w)))
def m_countingIn_b44 (l2 : Int32) (w : Wt) : Option Int32 := some l2
def m_countingIn_L4 (l1 : Int32) (w : Wt) : (Int32 × Int32) → Option ((Int32 × Int32) ⊕ Int32)
  | (l2, l3) => (if (w 0 27) ≤ l3 then some (.inr l2) else gd (inb l3 100) ((if (w 19 (l3).toNatClampNeg) = l1 then Option.bind (m_reason l3 w) fun x5 => (if x5 = (0 : Int32) then nmd (l2 + (1 : Int32)) fun v8 => some (.inl (v8, (l3 + 1))) else nmd (l2 + (0 : Int32)) fun v7 => some (.inl (v7, (l3 + 1)))) else nmd (l2 + (0 : Int32)) fun v4 => some (.inl (v4, (l3 + 1))))))
def m_countingIn_x4 (w : Wt) : Int32 → Option Int32
  | l2 => m_countingIn_b44 l2 w
def m_countingIn (a1 : Int32) (w : Wt) : Option Int32 := Option.bind (lp (m_countingIn_L4 a1 w) FU ((0 : Int32), (0 : Int32))) (m_countingIn_x4 w)
def m_close_b29 (l1 : Int32) (t0 : Int32) (t1 : Int32) (w : Wt) : Option (Int32 × Wt) := Option.bind (m_goes t1 t0 (1 : Int32) w) fun x1 => (if x1.1 = (0 : Int32) then some ((0 : Int32), x1.2) else gd (inb l1 8) (nmd (upd2 x1.2 13 (l1).toNatClampNeg (vp_nar .boolean (1 : Int32))) fun w4 => Option.bind (m_countingIn l1 w4) fun x5 => some (x5, w4)))
def m_close_b28 (l1 : Int32) (t0 : Int32) (w : Wt) : Option (Int32 × Wt) := m_close_b29 l1 (0 : Int32) t0 w
def m_close (a1 : Int32) (w : Wt) : Option (Int32 × Wt) := Option.bind (m_isBelow a1 (w 0 20)) fun x6 => (if x6 = (0 : Int32) then m_close_b28 a1 x6 w else gd (inb a1 8) ((if (w 13 (a1).toNatClampNeg) = (0 : Int32) then m_close_b29 a1 (1 : Int32) x6 w else m_close_b28 a1 x6 w)))
def m_mark_b54 (l1 : Int32) (t0 : Int32) (t1 : Int32) (w : Wt) : Option (Int32 × Wt) := Option.bind (m_goes t1 t0 (1 : Int32) w) fun x1 => (if x1.1 = (0 : Int32) then some ((0 : Int32), x1.2) else gd (inb (x1.2 0 29) 6) (nmd (upd2 x1.2 23 ((x1.2 0 29)).toNatClampNeg l1) fun w4 => nmd (upd2 w4 0 29 ((w4 0 29) + (1 : Int32))) fun w5 => some ((w5 0 29), w5)))
def m_mark_b38 (l1 : Int32) (l2 : Int32) (w : Wt) : Option (Int32 × Wt) := Option.bind (m_isBelow l1 (6 : Int32)) fun x6 => (if l2 = (0 : Int32) then m_mark_b54 l1 (1 : Int32) x6 w else m_mark_b54 l1 (0 : Int32) x6 w)
def m_mark_L4 (l1 : Int32) (w : Wt) : (Int32 × Int32) → Option ((Int32 × Int32) ⊕ Int32)
  | (l2, l3) => (if (w 0 29) ≤ l3 then some (.inr l2) else (if l2 = (0 : Int32) then gd (inb l3 6) ((if (w 23 (l3).toNatClampNeg) = l1 then some (.inl ((1 : Int32), (l3 + 1))) else some (.inl ((0 : Int32), (l3 + 1))))) else some (.inl ((1 : Int32), (l3 + 1)))))
def m_mark_x4 (l1 : Int32) (w : Wt) : Int32 → Option (Int32 × Wt)
  | l2 => m_mark_b38 l1 l2 w
def m_mark (a1 : Int32) (w : Wt) : Option (Int32 × Wt) := Option.bind (lp (m_mark_L4 a1 w) FU ((0 : Int32), (0 : Int32))) (m_mark_x4 a1 w)
def m_cast_b161 (l1 : Int32) (l2 : Int32) (w : Wt) : Option (Int32 × Wt) := gd (inb (w 0 27) 100) (nmd (upd2 w 18 ((w 0 27)).toNatClampNeg (w 0 29)) fun w2 => gd (inb (w2 0 27) 100) (nmd (upd2 w2 19 ((w2 0 27)).toNatClampNeg l1) fun w4 => gd (inb (w4 0 27) 100) (nmd (upd2 w4 20 ((w4 0 27)).toNatClampNeg l2) fun w6 => gd (inb (w6 0 27) 100) (nmd (upd2 w6 21 ((w6 0 27)).toNatClampNeg (w6 0 0)) fun w8 => nmd (upd2 w8 0 29 (0 : Int32)) fun w9 => nmd (upd2 w9 0 27 ((w9 0 27) + (1 : Int32))) fun w10 => some (((w10 0 27) - (1 : Int32)), w10)))))
def m_cast_L124 (l1 : Int32) (l2 : Int32) : (Int32 × Wt) → Option ((Int32 × Wt) ⊕ Wt)
  | (l5, w) => (if (w 0 29) ≤ l5 then some (.inr w) else gd (inb l5 6) (gd (inb (((6 : Int32) * (w 0 27)) + l5) 600) (nmd (upd2 w 17 ((((6 : Int32) * (w 0 27)) + l5)).toNatClampNeg (w 23 (l5).toNatClampNeg)) fun w14 => some (.inl ((l5 + 1), w14)))))
def m_cast_x124 (l1 : Int32) (l2 : Int32) : Wt → Option (Int32 × Wt)
  | w => m_cast_b161 l1 l2 w
def m_cast_b108 (l1 : Int32) (l2 : Int32) (l3 : Int32) (l4 : Int32) (w : Wt) : Option (Int32 × Wt) := Option.bind (m_goes l3 l4 (1 : Int32) w) fun x15 => (if x15.1 = (0 : Int32) then some ((0 : Int32), x15.2) else Option.bind (lp (m_cast_L124 l1 l2) FU ((0 : Int32), x15.2)) (m_cast_x124 l1 l2))
def m_cast_L65 (l1 : Int32) (l2 : Int32) (l3 : Int32) (w : Wt) : (Int32 × Int32) → Option ((Int32 × Int32) ⊕ Int32)
  | (l4, l5) => (if (w 0 29) ≤ l5 then some (.inr l4) else (if l4 = (0 : Int32) then some (.inr l4) else gd (inb l5 6) (gd (inb l1 8) ((if (w 10 (l1).toNatClampNeg) ≤ (w 23 (l5).toNatClampNeg) then some (.inl ((0 : Int32), (l5 + 1))) else some (.inl ((1 : Int32), (l5 + 1))))))))
def m_cast_x65 (l1 : Int32) (l2 : Int32) (l3 : Int32) (w : Wt) : Int32 → Option (Int32 × Wt)
  | l4 => m_cast_b108 l1 l2 l3 l4 w
def m_cast_b60 (l1 : Int32) (l2 : Int32) (l3 : Int32) (t0 : Int32) (w : Wt) : Option (Int32 × Wt) := Option.bind (lp (m_cast_L65 l1 l2 l3 w) FU (t0, (0 : Int32))) (m_cast_x65 l1 l2 l3 w)
def m_cast_b59 (l1 : Int32) (l2 : Int32) (l3 : Int32) (w : Wt) : Option (Int32 × Wt) := m_cast_b60 l1 l2 l3 (0 : Int32) w
def m_cast_b25 (l1 : Int32) (l2 : Int32) (t0 : Int32) (w : Wt) : Option (Int32 × Wt) := (if t0 = (0 : Int32) then m_cast_b59 l1 l2 t0 w else gd (inb l1 8) ((if (w 13 (l1).toNatClampNeg) = (0 : Int32) then (if (w 0 29) ≤ (0 : Int32) then m_cast_b59 l1 l2 t0 w else (if (100 : Int32) ≤ (w 0 27) then m_cast_b59 l1 l2 t0 w else m_cast_b60 l1 l2 t0 (1 : Int32) w)) else m_cast_b59 l1 l2 t0 w)))
def m_cast_b24 (l1 : Int32) (l2 : Int32) (w : Wt) : Option (Int32 × Wt) := m_cast_b25 l1 l2 (0 : Int32) w
def m_cast (a1 : Int32) (a2 : Int32) (w : Wt) : Option (Int32 × Wt) := Option.bind (m_isBelow a1 (w 0 20)) fun x27 => (if x27 = (0 : Int32) then m_cast_b24 a1 a2 w else Option.bind (m_isBelow a2 (20 : Int32)) fun x29 => (if x29 = (0 : Int32) then m_cast_b24 a1 a2 w else m_cast_b25 a1 a2 (1 : Int32) w))
def m_why (a1 : Int32) (w : Wt) : Option (Int32 × Wt) := Option.bind (m_isBelow a1 (w 0 27)) fun x1 => Option.bind (m_goes x1 (1 : Int32) (1 : Int32) w) fun x2 => (if x2.1 = (0 : Int32) then some ((0 : Int32), x2.2) else Option.bind (m_reason a1 x2.2) fun x4 => some (x4, x2.2))
def m_read_b26 (l1 : Int32) (l2 : Int32) (t0 : Int32) (w : Wt) : Option (Int32 × Wt) := Option.bind (m_goes t0 (1 : Int32) (1 : Int32) w) fun x1 => (if x1.1 = (0 : Int32) then some ((0 : Int32), x1.2) else gd (inb l1 100) ((if (x1.2 18 (l1).toNatClampNeg) ≤ l2 then some ((-1 : Int32), x1.2) else Option.bind (m_readAt l1 l2 x1.2) fun x5 => some (x5, x1.2))))
def m_read_b25 (l1 : Int32) (l2 : Int32) (w : Wt) : Option (Int32 × Wt) := m_read_b26 l1 l2 (0 : Int32) w
def m_read (a1 : Int32) (a2 : Int32) (w : Wt) : Option (Int32 × Wt) := Option.bind (m_isBelow a1 (w 0 27)) fun x6 => (if x6 = (0 : Int32) then m_read_b25 a1 a2 w else Option.bind (m_isBelow a2 (6 : Int32)) fun x8 => (if x8 = (0 : Int32) then m_read_b25 a1 a2 w else m_read_b26 a1 a2 (1 : Int32) w))
def m_misread_b39 (l1 : Int32) (t0 : Int32) (t1 : Int32) (w : Wt) : Option Wt := Option.bind (m_goes t1 t0 (1 : Int32) w) fun x1 => (if x1.1 = (0 : Int32) then some x1.2 else gd (inb l1 100) (nmd (upd2 x1.2 22 (l1).toNatClampNeg (vp_nar .boolean (1 : Int32))) fun w4 => some w4))
def m_misread_b38 (l1 : Int32) (t0 : Int32) (w : Wt) : Option Wt := m_misread_b39 l1 (0 : Int32) t0 w
def m_misread (a1 : Int32) (w : Wt) : Option Wt := Option.bind (m_isBelow a1 (w 0 27)) fun x5 => (if x5 = (0 : Int32) then m_misread_b38 a1 x5 w else gd (inb a1 100) ((if (w 22 (a1).toNatClampNeg) = (0 : Int32) then gd (inb a1 100) ((if (w 18 (a1).toNatClampNeg) ≤ (1 : Int32) then m_misread_b38 a1 x5 w else m_misread_b39 a1 (1 : Int32) x5 w)) else m_misread_b38 a1 x5 w)))
def m_countedAt_b82 (l3 : Int32) (w : Wt) : Option Int32 := some l3
def m_countedAt_b60 (l1 : Int32) (l4 : Int32) (l5 : Int32) (l6 : Int32) (t0 : Int32) (w : Wt) : Option ((Int32 × Int32 × Int32) ⊕ Int32) := (if l6 = (0 : Int32) then nmd (l4 - (0 : Int32)) fun v2 => some (.inl (t0, v2, (l5 + 1))) else nmd (l4 - (1 : Int32)) fun v3 => some (.inl (t0, v3, (l5 + 1))))
def m_countedAt_b59 (l1 : Int32) (l3 : Int32) (l4 : Int32) (l5 : Int32) (l6 : Int32) (w : Wt) : Option ((Int32 × Int32 × Int32) ⊕ Int32) := m_countedAt_b60 l1 l4 l5 l6 l3 w
def m_countedAt_b42 (l1 : Int32) (l3 : Int32) (l4 : Int32) (l5 : Int32) (t0 : Int32) (w : Wt) : Option ((Int32 × Int32 × Int32) ⊕ Int32) := (if t0 = (0 : Int32) then m_countedAt_b59 l1 l3 l4 l5 t0 w else (if l4 = (0 : Int32) then m_countedAt_b60 l1 l4 l5 t0 l5 w else m_countedAt_b59 l1 l3 l4 l5 t0 w))
def m_countedAt_b41 (l1 : Int32) (l3 : Int32) (l4 : Int32) (l5 : Int32) (w : Wt) : Option ((Int32 × Int32 × Int32) ⊕ Int32) := m_countedAt_b42 l1 l3 l4 l5 (0 : Int32) w
def m_countedAt_L8 (l1 : Int32) (w : Wt) : (Int32 × Int32 × Int32) → Option ((Int32 × Int32 × Int32) ⊕ Int32)
  | (l3, l4, l5) => (if (w 0 27) ≤ l5 then some (.inr l3) else gd (inb l5 100) ((if (w 19 (l5).toNatClampNeg) = l1 then Option.bind (m_reason l5 w) fun x9 => (if x9 = (0 : Int32) then m_countedAt_b42 l1 l3 l4 l5 (1 : Int32) w else m_countedAt_b41 l1 l3 l4 l5 w) else m_countedAt_b41 l1 l3 l4 l5 w)))
def m_countedAt_x8 (w : Wt) : Int32 → Option Int32
  | l3 => m_countedAt_b82 l3 w
def m_countedAt (a1 : Int32) (a2 : Int32) (w : Wt) : Option Int32 := Option.bind (lp (m_countedAt_L8 a1 w) FU ((-1 : Int32), a2, (0 : Int32))) (m_countedAt_x8 w)
def m_sample_b153 (l1 : Int32) (l3 : Int32) (l8 : Int32) (w : Wt) : Option (Int32 × Wt) := gd (inb l1 8) (gd (inb l1 8) (nmd (upd2 w 15 (l1).toNatClampNeg ((w 15 (l1).toNatClampNeg) + l3)) fun w3 => gd (inb l1 8) (gd (inb l1 8) (nmd (upd2 w3 16 (l1).toNatClampNeg ((w3 16 (l1).toNatClampNeg) + l8)) fun w6 => some (l8, w6)))))
def m_sample_b136 (l1 : Int32) (l3 : Int32) (l6 : Int32) (l7 : Int32) (l9 : Int32) (l10 : Int32) (t0 : Int32) (t1 : Int32) (w : Wt) : Option ((Int32 × Int32 × Int32 × Wt) ⊕ (Int32 × Wt)) := nmd (t1 + t0) fun v7 => gd (inb l10 100) (nmd (upd2 w 22 (l10).toNatClampNeg (vp_nar .boolean (0 : Int32))) fun w9 => some (.inl (l7, v7, (l9 + 1), w9)))
def m_sample_L86 (l1 : Int32) (l3 : Int32) (l6 : Int32) : (Int32 × Int32 × Int32 × Wt) → Option ((Int32 × Int32 × Int32 × Wt) ⊕ (Int32 × Wt))
  | (l7, l8, l9, w) => (if l3 ≤ l9 then some (.inr (l8, w)) else gd (nzb (65536 : Int32)) (nmd ((((1103 : Int32) * l7) + (12345 : Int32)) - (((1103 : Int32) * l7) + (12345 : Int32)) / (65536 : Int32) * (65536 : Int32)) fun v12 => gd (nzb l6) (Option.bind (m_countedAt l1 (v12 - v12 / l6 * l6) w) fun x14 => gd (inb x14 100) ((if (w 22 (x14).toNatClampNeg) = (0 : Int32) then m_sample_b136 l1 l3 l6 v12 l9 x14 (0 : Int32) l8 w else m_sample_b136 l1 l3 l6 v12 l9 x14 (1 : Int32) l8 w)))))
def m_sample_x86 (l1 : Int32) (l3 : Int32) : (Int32 × Wt) → Option (Int32 × Wt)
  | (l8, w) => m_sample_b153 l1 l3 l8 w
def m_sample_b69 (l1 : Int32) (l2 : Int32) (l3 : Int32) (l6 : Int32) (t0 : Int32) (t1 : Int32) (t2 : Int32) (w : Wt) : Option (Int32 × Wt) := Option.bind (m_goes t2 t1 t0 w) fun x17 => (if x17.1 = (0 : Int32) then some ((0 : Int32), x17.2) else Option.bind (lp (m_sample_L86 l1 l3 l6) FU (l2, (0 : Int32), (0 : Int32), x17.2)) (m_sample_x86 l1 l3))
def m_sample_b52 (l1 : Int32) (l2 : Int32) (l3 : Int32) (l4 : Int32) (l5 : Int32) (t0 : Int32) (w : Wt) : Option (Int32 × Wt) := (if t0 ≤ (0 : Int32) then m_sample_b69 l1 l2 l3 t0 (0 : Int32) l5 l4 w else m_sample_b69 l1 l2 l3 t0 (1 : Int32) l5 l4 w)
def m_sample_b36 (l1 : Int32) (l2 : Int32) (l3 : Int32) (l4 : Int32) (t0 : Int32) (w : Wt) : Option (Int32 × Wt) := (if l4 = (0 : Int32) then m_sample_b52 l1 l2 l3 l4 t0 (0 : Int32) w else Option.bind (m_countingIn l1 w) fun x21 => m_sample_b52 l1 l2 l3 l4 t0 x21 w)
def m_sample_b35 (l1 : Int32) (l2 : Int32) (l3 : Int32) (l4 : Int32) (w : Wt) : Option (Int32 × Wt) := m_sample_b36 l1 l2 l3 l4 (0 : Int32) w
def m_sample (a1 : Int32) (a2 : Int32) (a3 : Int32) (w : Wt) : Option (Int32 × Wt) := Option.bind (m_isBelow a1 (w 0 20)) fun x22 => Option.bind (m_isWithin a2 (0 : Int32) (9999 : Int32)) fun x23 => (if x23 = (0 : Int32) then m_sample_b35 a1 a2 a3 x22 w else Option.bind (m_isWithin a3 (1 : Int32) (20 : Int32)) fun x25 => (if x25 = (0 : Int32) then m_sample_b35 a1 a2 a3 x22 w else m_sample_b36 a1 a2 a3 x22 (1 : Int32) w))
def m_recount_b94 (l2 : Int32) (w : Wt) : Option (Int32 × Wt) := some (l2, w)
def m_recount_b56 (l1 : Int32) (l3 : Int32) (t0 : Int32) (t1 : Int32) (w : Wt) : Option ((Int32 × Int32 × Wt) ⊕ (Int32 × Wt)) := nmd (t1 + t0) fun v1 => gd (inb l3 100) ((if (w 22 (l3).toNatClampNeg) = (0 : Int32) then gd (inb l3 100) (nmd (upd2 w 22 (l3).toNatClampNeg (vp_nar .boolean (0 : Int32))) fun w5 => some (.inl (v1, (l3 + 1), w5))) else gd (inb l3 100) ((if (w 19 (l3).toNatClampNeg) = l1 then gd (inb l3 100) (nmd (upd2 w 22 (l3).toNatClampNeg (vp_nar .boolean (0 : Int32))) fun w9 => some (.inl (v1, (l3 + 1), w9))) else gd (inb l3 100) (nmd (upd2 w 22 (l3).toNatClampNeg (vp_nar .boolean (1 : Int32))) fun w11 => some (.inl (v1, (l3 + 1), w11)))))))
def m_recount_b55 (l1 : Int32) (l3 : Int32) (t0 : Int32) (w : Wt) : Option ((Int32 × Int32 × Wt) ⊕ (Int32 × Wt)) := m_recount_b56 l1 l3 (0 : Int32) t0 w
def m_recount_L23 (l1 : Int32) : (Int32 × Int32 × Wt) → Option ((Int32 × Int32 × Wt) ⊕ (Int32 × Wt))
  | (l2, l3, w) => (if (w 0 27) ≤ l3 then some (.inr (l2, w)) else gd (inb l3 100) ((if (w 19 (l3).toNatClampNeg) = l1 then gd (inb l3 100) ((if (w 22 (l3).toNatClampNeg) = (0 : Int32) then m_recount_b55 l1 l3 l2 w else m_recount_b56 l1 l3 (1 : Int32) l2 w)) else m_recount_b55 l1 l3 l2 w)))
def m_recount_x23 : (Int32 × Wt) → Option (Int32 × Wt)
  | (l2, w) => m_recount_b94 l2 w
def m_recount (a1 : Int32) (w : Wt) : Option (Int32 × Wt) := Option.bind (m_isBelow a1 (w 0 20)) fun x17 => Option.bind (m_goes x17 (1 : Int32) (1 : Int32) w) fun x18 => (if x18.1 = (0 : Int32) then some ((0 : Int32), x18.2) else Option.bind (lp (m_recount_L23 a1) FU ((0 : Int32), (0 : Int32), x18.2)) (m_recount_x23))
def m_doubt (a1 : Int32) (w : Wt) : Option (Int32 × Wt) := Option.bind (m_isBelow a1 (w 0 20)) fun x1 => Option.bind (m_goes x1 (1 : Int32) (1 : Int32) w) fun x2 => (if x2.1 = (0 : Int32) then some ((0 : Int32), x2.2) else gd (inb a1 8) ((if (x2.2 15 (a1).toNatClampNeg) = (0 : Int32) then some ((0 : Int32), x2.2) else gd (inb a1 8) (gd (inb a1 8) (gd (nzb (x2.2 15 (a1).toNatClampNeg)) (some ((((100 : Int32) * (x2.2 16 (a1).toNatClampNeg)) / (x2.2 15 (a1).toNatClampNeg)), x2.2)))))))
def m_winners (a1 : Int32) (w : Wt) : Option (Int32 × Wt) := Option.bind (m_isBelow a1 (w 0 20)) fun x1 => Option.bind (m_goes x1 (1 : Int32) (1 : Int32) w) fun x2 => (if x2.1 = (0 : Int32) then some ((0 : Int32), x2.2) else Option.bind (m_winnersOf a1 x2.2) fun x4 => some (x4.1, x4.2))
def m_winnersByHand (a1 : Int32) (w : Wt) : Option (Int32 × Wt) := Option.bind (m_winners a1 w) fun x1 => some (x1.1, x1.2)
def m_tallies (a1 : Int32) (w : Wt) : Option (Int32 × Wt) := Option.bind (m_isBelow a1 (w 0 20)) fun x1 => Option.bind (m_goes x1 (1 : Int32) (1 : Int32) w) fun x2 => (if x2.1 = (0 : Int32) then some ((0 : Int32), x2.2) else Option.bind (m_winnersOf a1 x2.2) fun x4 => some ((x4.2 0 32), x4.2))
def m_ties (a1 : Int32) (w : Wt) : Option (Int32 × Wt) := Option.bind (m_isBelow a1 (w 0 20)) fun x1 => Option.bind (m_goes x1 (1 : Int32) (1 : Int32) w) fun x2 => (if x2.1 = (0 : Int32) then some ((0 : Int32), x2.2) else Option.bind (m_winnersOf a1 x2.2) fun x4 => some ((x4.2 0 35), x4.2))
def m_votes_b65 (l2 : Int32) (l3 : Int32) (t0 : Int32) (w : Wt) : Option (Int32 × Wt) := Option.bind (m_goes t0 (1 : Int32) (1 : Int32) w) fun x1 => (if x1.1 = (0 : Int32) then some ((0 : Int32), x1.2) else Option.bind (m_votesIn l2 l3 x1.2) fun x3 => some (x3, x1.2))
def m_votes_b64 (l2 : Int32) (l3 : Int32) (w : Wt) : Option (Int32 × Wt) := m_votes_b65 l2 l3 (0 : Int32) w
def m_votes_b24 (l1 : Int32) (l2 : Int32) (l3 : Int32) (l4 : Int32) (t0 : Int32) (w : Wt) : Option (Int32 × Wt) := (if l4 = (0 : Int32) then m_votes_b64 l2 l3 w else (if t0 < (0 : Int32) then m_votes_b64 l2 l3 w else Option.bind (m_isBelow l2 (w 0 32)) fun x6 => (if x6 = (0 : Int32) then m_votes_b64 l2 l3 w else gd (inb l1 8) (Option.bind (m_isBelow l3 (w 10 (l1).toNatClampNeg)) fun x9 => (if x9 = (0 : Int32) then m_votes_b64 l2 l3 w else m_votes_b65 l2 l3 (1 : Int32) w)))))
def m_votes (a1 : Int32) (a2 : Int32) (a3 : Int32) (w : Wt) : Option (Int32 × Wt) := Option.bind (m_isBelow a1 (w 0 20)) fun x11 => (if x11 = (0 : Int32) then m_votes_b24 a1 a2 a3 x11 (0 : Int32) w else Option.bind (m_winnersOf a1 w) fun x13 => m_votes_b24 a1 a2 a3 x11 x13.1 x13.2)
def m_tied_b50 (l2 : Int32) (t0 : Int32) (w : Wt) : Option (Int32 × Wt) := Option.bind (m_goes t0 (1 : Int32) (1 : Int32) w) fun x1 => (if x1.1 = (0 : Int32) then some ((0 : Int32), x1.2) else gd (inb l2 800) (some ((x1.2 26 (l2).toNatClampNeg), x1.2)))
def m_tied_b49 (l2 : Int32) (w : Wt) : Option (Int32 × Wt) := m_tied_b50 l2 (0 : Int32) w
def m_tied_b22 (l2 : Int32) (l3 : Int32) (t0 : Int32) (w : Wt) : Option (Int32 × Wt) := (if l3 = (0 : Int32) then m_tied_b49 l2 w else (if t0 < (0 : Int32) then m_tied_b49 l2 w else Option.bind (m_isBelow l2 (w 0 35)) fun x6 => (if x6 = (0 : Int32) then m_tied_b49 l2 w else m_tied_b50 l2 (1 : Int32) w)))
def m_tied (a1 : Int32) (a2 : Int32) (w : Wt) : Option (Int32 × Wt) := Option.bind (m_isBelow a1 (w 0 20)) fun x8 => (if x8 = (0 : Int32) then m_tied_b22 a2 x8 (0 : Int32) w else Option.bind (m_winnersOf a1 w) fun x10 => m_tied_b22 a2 x8 x10.1 x10.2)
def m_certify_b29 (l1 : Int32) (t0 : Int32) (t1 : Int32) (w : Wt) : Option (Int32 × Wt) := Option.bind (m_goes t1 t0 (1 : Int32) w) fun x1 => (if x1.1 = (0 : Int32) then some ((0 : Int32), x1.2) else Option.bind (m_winnersOf l1 x1.2) fun x3 => gd (inb l1 8) (nmd (upd2 x3.2 14 (l1).toNatClampNeg x3.1) fun w5 => gd (inb l1 8) (some ((w5 14 (l1).toNatClampNeg), w5))))
def m_certify_b28 (l1 : Int32) (t0 : Int32) (w : Wt) : Option (Int32 × Wt) := m_certify_b29 l1 (0 : Int32) t0 w
def m_certify (a1 : Int32) (w : Wt) : Option (Int32 × Wt) := Option.bind (m_isBelow a1 (w 0 20)) fun x7 => (if x7 = (0 : Int32) then m_certify_b28 a1 x7 w else gd (inb a1 8) ((if (w 13 (a1).toNatClampNeg) = (0 : Int32) then m_certify_b28 a1 x7 w else m_certify_b29 a1 (1 : Int32) x7 w)))
def m_certified (a1 : Int32) (w : Wt) : Option (Int32 × Wt) := Option.bind (m_isBelow a1 (w 0 20)) fun x1 => Option.bind (m_goes x1 (1 : Int32) (1 : Int32) w) fun x2 => (if x2.1 = (0 : Int32) then some ((0 : Int32), x2.2) else gd (inb a1 8) (some ((x2.2 14 (a1).toNatClampNeg), x2.2)))
def m_stale_b54 (l1 : Int32) (w : Wt) : Option (Int32 × Wt) := some (l1, w)
def m_stale_L9 : (Int32 × Int32 × Wt) → Option ((Int32 × Int32 × Wt) ⊕ (Int32 × Wt))
  | (l1, l2, w) => (if (w 0 20) ≤ l2 then some (.inr (l1, w)) else gd (inb l2 8) ((if (w 14 (l2).toNatClampNeg) < (0 : Int32) then nmd (l1 + (0 : Int32)) fun v4 => some (.inl (v4, (l2 + 1), w)) else gd (inb l2 8) (Option.bind (m_winnersOf l2 w) fun x6 => (if (w 14 (l2).toNatClampNeg) = x6.1 then nmd (l1 + (0 : Int32)) fun v8 => some (.inl (v8, (l2 + 1), x6.2)) else nmd (l1 + (1 : Int32)) fun v9 => some (.inl (v9, (l2 + 1), x6.2)))))))
def m_stale_x9 : (Int32 × Wt) → Option (Int32 × Wt)
  | (l1, w) => m_stale_b54 l1 w
def m_stale (w : Wt) : Option (Int32 × Wt) := nmd (upd2 w 0 45 (0 : Int32)) fun w10 => Option.bind (lp (m_stale_L9) FU ((0 : Int32), (0 : Int32), w10)) (m_stale_x9)

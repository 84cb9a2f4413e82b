/-! THE LAW'S LOOP -/
theorem w0_n {i : Nat} (h : i < 64) : w0C i = fun _ => 0 := by
  funext k
  unfold w0C
  rw [if_neg (by omega)]
theorem w0_o {v k : Nat} (h : k ≠ 7) : w0C (64 + v) k = 0 := by
  unfold w0C
  rw [if_neg (by omega)]
theorem inv_0 : Inv 0 w0C (fun _ _ => 0) := by
  refine ⟨⟨0, by omega, by rw [w0_n (by omega)]; rfl, rfl⟩, ⟨0, by omega, by rw [w0_n (by omega)]; rfl, rfl, w0_n (by omega), fun k => ⟨0, by omega, rfl⟩⟩, ⟨0, by omega, by rw [w0_n (by omega)]; rfl, rfl, w0_n (by omega), fun p hp => absurd hp (Nat.not_lt_zero p), fun p q hp => absurd hp (Nat.not_lt_zero p)⟩, 0, 0, 0, 0, ⟨⟨by omega, by rw [w0_n (by omega)]; rfl, rfl⟩, ⟨by omega, by rw [w0_n (by omega)]; rfl, rfl⟩, ⟨w0_n (by omega), w0_n (by omega), w0_n (by omega), w0_n (by omega), w0_n (by omega)⟩, ⟨w0_n (by omega), w0_n (by omega), w0_n (by omega)⟩, fun b hb => absurd hb (Nat.not_lt_zero b)⟩, fun k _ => rfl, ⟨by omega, by rw [w0_n (by omega)]; rfl, rfl, fun r hr => absurd hr (Nat.not_lt_zero r)⟩, ⟨⟨by omega, by rw [w0_n (by omega)]; rfl, rfl⟩, fun v hv => ⟨⟨w0_o (by omega), w0_o (by omega), w0_o (by omega), w0_o (by omega)⟩, ⟨w0_o (by omega), w0_o (by omega), w0_o (by omega)⟩, 0, by omega, rfl⟩, fun v hv => absurd hv (Nat.not_lt_zero v), fun v _ hv => ?_⟩, ⟨⟨w0_n (by omega), w0_n (by omega), w0_n (by omega)⟩, fun b hb => absurd hb (Nat.not_lt_zero b), fun b _ => rfl⟩⟩
  unfold w0C
  rw [if_pos ⟨by omega, by omega, rfl⟩]
theorem sub_5 {L i : Nat} (hL : L ≤ 2560) (hi : i ≤ 3000) (h : ¬ Int32.ofNat L - 5 < nI i) : i + 5 ≤ L := by
  by_cases h5 : 5 ≤ L
  · rw [show (Int32.ofNat L - 5 : Int32) = nI (L - 5) from pk_sub (a := L) (b := 5) h5] at h
    rw [nl_lt (by omega) (by omega)] at h
    omega
  · exfalso
    refine h ?_
    rw [ilt, nI_toInt (show i < 2147483648 by omega)]
    have hl : L = 0 ∨ L = 1 ∨ L = 2 ∨ L = 3 ∨ L = 4 := by omega
    have h0 : (Int32.ofNat 0 - 5 : Int32).toInt = -5 := by decide
    have h1 : (Int32.ofNat 1 - 5 : Int32).toInt = -4 := by decide
    have h2 : (Int32.ofNat 2 - 5 : Int32).toInt = -3 := by decide
    have h3 : (Int32.ofNat 3 - 5 : Int32).toInt = -2 := by decide
    have h4 : (Int32.ofNat 4 - 5 : Int32).toInt = -1 := by decide
    rcases hl with rfl | rfl | rfl | rfl | rfl <;> omega
theorem dw_23 : decode code 23 = .ok (.iload 4, 2) := by decide +kernel
theorem dw_25 : decode code 25 = .ok (.aload_n 0, 1) := by decide +kernel
theorem dw_26 : decode code 26 = .ok (.arraylength, 1) := by decide +kernel
theorem dw_27 : decode code 27 = .ok (.iconst 5, 1) := by decide +kernel
theorem dw_28 : decode code 28 = .ok (.isub, 1) := by decide +kernel
theorem dw_29 : decode code 29 = .ok (.if_icmp .gt 1797, 3) := by decide +kernel
theorem dw_32 : decode code 32 = .ok (.aload_n 0, 1) := by decide +kernel
theorem dw_33 : decode code 33 = .ok (.iload 4, 2) := by decide +kernel
theorem dw_35 : decode code 35 = .ok (.iaload, 1) := by decide +kernel
theorem dw_36 : decode code 36 = .ok (.bipush 31, 2) := by decide +kernel
theorem dw_38 : decode code 38 = .ok (.iand, 1) := by decide +kernel
theorem dw_39 : decode code 39 = .ok (.tableswitch 1781 0 28 #[129, 221, 277, 364, 420, 478, 491, 504, 548, 604, 660, 752, 808, 864, 932, 988, 1056, 1092, 1172, 1228, 1284, 1340, 1396, 1452, 1532, 1588, 1656, 1712, 1768], 129) := by decide +kernel
theorem dw_1820 : decode code 1820 = .ok (.iinc 4 5, 3) := by decide +kernel
theorem dw_1823 : decode code 1823 = .ok (.goto (-1800), 3) := by decide +kernel
theorem dw_1826 : decode code 1826 = .ok (.iconst 1, 1) := by decide +kernel
theorem dw_1827 : decode code 1827 = .ok (.ireturn, 1) := by decide +kernel
section LOOP
variable {p : Program} {l : Launch} {e : Env} {s : State} {m : MethodId} {below : List Frame} {meth : Method} {c : Code} {bb L : Nat} {xs : Nat → Int32} {D : va_G} {dA : Nat → ClassId} {q qm : Nat → Nat} {qo : Nat} {t i : Nat} {w u : Wt} {o : Int64} {H : Heap} {locs : List Loc} {cells slots : Nat} {ls : Array Slot}
set_option maxHeartbeats 4000000 in
set_option maxRecDepth 20000 in
/-- the switch -/
theorem law_sw (X : LX p s m meth c bb L xs l D dA q qm qo) (hI : Inv t w u) (ht : t ≤ 600) (S : LSt D dA q qm qo s.heap w u o H locs) (hi : i + 4 < L) (hl : lv_has ls 7 [(0, .ref bb), (1, .ref (q 0)), (2, .ref (qm 0)), (3, .ref qo), (4, .int (nI i))]) (hf : cells + 4 ≤ room_1.cells ∧ slots + 24 ≤ room_1.slots) (kk : NX p l e s m below meth c bb D dA q qm qo t i cells slots) {j : Nat} (hj : j < 32) : W p l e room_1 s m #[Value.ref bb] below meth c H locs cells slots (lw_Z below #[Value.ref bb] s) (F0 m 39 ls [.int (nI j)]) := by
  have hx : p.tables.exec = Jvm.exec := X.1.1
  have hb : c.code = code := X.1.2.1
  match j, hj with
  | 0, _ => exact lv_tableIn (off := 129) (tgt := 168) hx hb dw_39 (by decide) (by decide) rfl (by decide) (case_0 X hI ht S hi hl hf kk)
  | 1, _ => exact lv_tableIn (off := 221) (tgt := 260) hx hb dw_39 (by decide) (by decide) rfl (by decide) (case_1 X hI ht S hi hl hf kk)
  | 2, _ => exact lv_tableIn (off := 277) (tgt := 316) hx hb dw_39 (by decide) (by decide) rfl (by decide) (case_2 X hI ht S hi hl hf kk)
  | 3, _ => exact lv_tableIn (off := 364) (tgt := 403) hx hb dw_39 (by decide) (by decide) rfl (by decide) (case_3 X hI ht S hi hl hf kk)
  | 4, _ => exact lv_tableIn (off := 420) (tgt := 459) hx hb dw_39 (by decide) (by decide) rfl (by decide) (case_4 X hI ht S hi hl hf kk)
  | 5, _ => exact lv_tableIn (off := 478) (tgt := 517) hx hb dw_39 (by decide) (by decide) rfl (by decide) (case_5 X hI ht S hi hl hf kk)
  | 6, _ => exact lv_tableIn (off := 491) (tgt := 530) hx hb dw_39 (by decide) (by decide) rfl (by decide) (case_6 X hI ht S hi hl hf kk)
  | 7, _ => exact lv_tableIn (off := 504) (tgt := 543) hx hb dw_39 (by decide) (by decide) rfl (by decide) (case_7 X hI ht S hi hl hf kk)
  | 8, _ => exact lv_tableIn (off := 548) (tgt := 587) hx hb dw_39 (by decide) (by decide) rfl (by decide) (case_8 X hI ht S hi hl hf kk)
  | 9, _ => exact lv_tableIn (off := 604) (tgt := 643) hx hb dw_39 (by decide) (by decide) rfl (by decide) (case_9 X hI ht S hi hl hf kk)
  | 10, _ => exact lv_tableIn (off := 660) (tgt := 699) hx hb dw_39 (by decide) (by decide) rfl (by decide) (case_10 X hI ht S hi hl hf kk)
  | 11, _ => exact lv_tableIn (off := 752) (tgt := 791) hx hb dw_39 (by decide) (by decide) rfl (by decide) (case_11 X hI ht S hi hl hf kk)
  | 12, _ => exact lv_tableIn (off := 808) (tgt := 847) hx hb dw_39 (by decide) (by decide) rfl (by decide) (case_12 X hI ht S hi hl hf kk)
  | 13, _ => exact lv_tableIn (off := 864) (tgt := 903) hx hb dw_39 (by decide) (by decide) rfl (by decide) (case_13 X hI ht S hi hl hf kk)
  | 14, _ => exact lv_tableIn (off := 932) (tgt := 971) hx hb dw_39 (by decide) (by decide) rfl (by decide) (case_14 X hI ht S hi hl hf kk)
  | 15, _ => exact lv_tableIn (off := 988) (tgt := 1027) hx hb dw_39 (by decide) (by decide) rfl (by decide) (case_15 X hI ht S hi hl hf kk)
  | 16, _ => exact lv_tableIn (off := 1056) (tgt := 1095) hx hb dw_39 (by decide) (by decide) rfl (by decide) (case_16 X hI ht S hi hl hf kk)
  | 17, _ => exact lv_tableIn (off := 1092) (tgt := 1131) hx hb dw_39 (by decide) (by decide) rfl (by decide) (case_17 X hI ht S hi hl hf kk)
  | 18, _ => exact lv_tableIn (off := 1172) (tgt := 1211) hx hb dw_39 (by decide) (by decide) rfl (by decide) (case_18 X hI ht S hi hl hf kk)
  | 19, _ => exact lv_tableIn (off := 1228) (tgt := 1267) hx hb dw_39 (by decide) (by decide) rfl (by decide) (case_19 X hI ht S hi hl hf kk)
  | 20, _ => exact lv_tableIn (off := 1284) (tgt := 1323) hx hb dw_39 (by decide) (by decide) rfl (by decide) (case_20 X hI ht S hi hl hf kk)
  | 21, _ => exact lv_tableIn (off := 1340) (tgt := 1379) hx hb dw_39 (by decide) (by decide) rfl (by decide) (case_21 X hI ht S hi hl hf kk)
  | 22, _ => exact lv_tableIn (off := 1396) (tgt := 1435) hx hb dw_39 (by decide) (by decide) rfl (by decide) (case_22 X hI ht S hi hl hf kk)
  | 23, _ => exact lv_tableIn (off := 1452) (tgt := 1491) hx hb dw_39 (by decide) (by decide) rfl (by decide) (case_23 X hI ht S hi hl hf kk)
  | 24, _ => exact lv_tableIn (off := 1532) (tgt := 1571) hx hb dw_39 (by decide) (by decide) rfl (by decide) (case_24 X hI ht S hi hl hf kk)
  | 25, _ => exact lv_tableIn (off := 1588) (tgt := 1627) hx hb dw_39 (by decide) (by decide) rfl (by decide) (case_25 X hI ht S hi hl hf kk)
  | 26, _ => exact lv_tableIn (off := 1656) (tgt := 1695) hx hb dw_39 (by decide) (by decide) rfl (by decide) (case_26 X hI ht S hi hl hf kk)
  | 27, _ => exact lv_tableIn (off := 1712) (tgt := 1751) hx hb dw_39 (by decide) (by decide) rfl (by decide) (case_27 X hI ht S hi hl hf kk)
  | 28, _ => exact lv_tableIn (off := 1768) (tgt := 1807) hx hb dw_39 (by decide) (by decide) rfl (by decide) (case_28 X hI ht S hi hl hf kk)
  | 29, _ => exact lv_tableOut (tgt := 1820) hx hb dw_39 (by decide) (by decide) (W.widen (k := cells + 4) (n := slots + 24) (by omega) (by omega) (kk w u o H locs ls (hI.up (Nat.le_succ t)) S hl))
  | 30, _ => exact lv_tableOut (tgt := 1820) hx hb dw_39 (by decide) (by decide) (W.widen (k := cells + 4) (n := slots + 24) (by omega) (by omega) (kk w u o H locs ls (hI.up (Nat.le_succ t)) S hl))
  | 31, _ => exact lv_tableOut (tgt := 1820) hx hb dw_39 (by decide) (by decide) (W.widen (k := cells + 4) (n := slots + 24) (by omega) (by omega) (kk w u o H locs ls (hI.up (Nat.le_succ t)) S hl))
  | n + 32, h => exact absurd h (by omega)
set_option maxHeartbeats 4000000 in
theorem law_loop (X : LX p s m meth c bb L xs l D dA q qm qo) : ∀ (n t : Nat) (w u : Wt) (o : Int64) (H : Heap) (locs : List Loc) (cells slots : Nat) (ls : Array Slot), L < 5 * t + 5 * n + 5 → 5 * t ≤ L → Inv t w u → LSt D dA q qm qo s.heap w u o H locs → lv_has ls 7 [(0, .ref bb), (1, .ref (q 0)), (2, .ref (qm 0)), (3, .ref qo), (4, .int (nI (5 * t)))] → cells ≤ 200 + 4 * t → slots ≤ 10000 + 24 * t → W p l e room_1 s m #[Value.ref bb] below meth c H locs cells slots (lw_Z below #[Value.ref bb] s) (F0 m 23 ls []) := by
  obtain ⟨⟨hx, hb, hr, hml, hown, hts, hX, hbl, hlocks, hgv⟩, hfl, hL, C⟩ := id X
  have hbA : ¬ (fun a : Nat => s.heap.size ≤ a) bb := Nat.not_le.mpr hbl
  have rc : room_1.cells = 601024 := rfl
  have rs : room_1.slots = 7293034 := rfl
  have stop : ∀ (t : Nat) (w u : Wt) (o : Int64) (H : Heap) (locs : List Loc) (cells slots : Nat) (ls : Array Slot), 5 * t ≤ L → LSt D dA q qm qo s.heap w u o H locs → cells ≤ 200 + 4 * t → slots ≤ 10000 + 24 * t → W p l e room_1 s m #[Value.ref bb] below meth c H locs cells slots (lw_Z below #[Value.ref bb] s) (F0 m 1826 ls []) := by
    intro t w u o H locs cells slots ls h5 S hc hs
    refine lv_iconst (v := 1) hx hb dw_1826 (by decide) ?_
    refine va_forget (fun a ha => S.2.2.2.2.2 a ha) ?_
    refine W.widen (k := 601024) (n := 7293034) (by omega) (by omega) ?_
    exact lw_ret hx hb hr hlocks dw_1827
  intro n
  induction n with
  | zero =>
    intro t w u o H locs cells slots ls hn h5 hI S hl hc hs
    refine lv_iload hx hb dw_23 (lv_at hl 4 rfl) ?_
    refine lv_aload_n hx hb dw_25 rfl (lv_at hl 0 rfl) ?_
    refine va_slen hx hb hX hbl hbA S.2.2.2 dw_26 ?_
    refine lv_iconst (v := 5) hx hb dw_27 (by decide) ?_
    refine lv_isub hx hb dw_28 ?_
    refine lv_icmp_gt (tgt := 1826) hx hb dw_29 (by decide) (fun _ => stop t w u o H locs cells slots ls h5 S hc hs) (fun g => ?_)
    have := sub_5 hL (by omega) g
    omega
  | succ n ih =>
    intro t w u o H locs cells slots ls hn h5 hI S hl hc hs
    refine lv_iload hx hb dw_23 (lv_at hl 4 rfl) ?_
    refine lv_aload_n hx hb dw_25 rfl (lv_at hl 0 rfl) ?_
    refine va_slen hx hb hX hbl hbA S.2.2.2 dw_26 ?_
    refine lv_iconst (v := 5) hx hb dw_27 (by decide) ?_
    refine lv_isub hx hb dw_28 ?_
    refine lv_icmp_gt (tgt := 1826) hx hb dw_29 (by decide) (fun _ => stop t w u o H locs cells slots ls h5 S hc hs) (fun g => ?_)
    have hi5 := sub_5 hL (by omega) g
    refine lv_aload_n hx hb dw_32 rfl (lv_at hl 0 rfl) ?_
    refine lv_iload hx hb dw_33 (lv_at hl 4 rfl) ?_
    refine va_sld hx hb hX hbl hbA S.2.2.2 (vp_in_nI (show 5 * t < L by omega) (by omega)) dw_35 ?_
    refine lv_bipush (v := 31) hx hb dw_36 (by decide) ?_
    refine lv_iand hx hb dw_38 ?_
    obtain ⟨j, hj, ej⟩ := pk_andE (xs (nI (5 * t)).toNatClampNeg) (m := 31) 5 (by decide)
    rw [ej]
    refine law_sw X hI (by omega) S (by omega) hl ⟨by omega, by omega⟩ (fun w' u' o' H1 locs1 ls' hI' S' hl' => ?_) hj
    refine lv_iinc (v := nI (5 * (t + 1))) (lv' := [(4, .int (nI (5 * (t + 1)))), (0, .ref bb), (1, .ref (q 0)), (2, .ref (qm 0)), (3, .ref qo)]) hx hb dw_1820 hl' (k := 4) rfl ?_ (by decide) rfl (fun ls hl => ?_)
    · rw [show Int32.ofInt 5 = nI 5 from by decide, nI_add]; rfl
    refine lv_goto (tgt := 23) hx hb dw_1823 (by decide) ?_
    exact ih (t + 1) w' u' o' H1 locs1 (cells + 4) (slots + 24) ls (by omega) (by omega) hI' S' (lv_sub hl [1, 2, 3, 4, 0] rfl) (by omega) (by omega)
end LOOP

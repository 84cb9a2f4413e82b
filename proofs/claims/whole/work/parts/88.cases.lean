/-! THE LAW'S CASES, on -/
theorem lw_191 : lkW 191 yL_ties cL_ties 4 [(0, 9, 12, 13)] 3 := ⟨wall_of 943 (by decide +kernel) rfl, wall_of 944 (by decide +kernel) rfl, wall_of 0 (by decide +kernel) rfl, wall_of 945 (by decide +kernel) rfl, ⟨by decide, by decide⟩, by decide +kernel⟩
theorem lm_193 : lkV RL 193 RX10 yX10_ties cX10_ties 2 (some .int) 1 := ⟨wall_of 1306 (by decide +kernel) rfl, wall_of 1307 (by decide +kernel) rfl, wall_of 1308 (by decide +kernel) rfl, wall_of 11 (by decide +kernel) rfl, wall_of 1309 (by decide +kernel) rfl, ⟨by decide, by decide⟩, by decide +kernel⟩
theorem lw_194 : lkW 194 yL_tied cL_tied 5 [(0, 10, 13, 13)] 4 := ⟨wall_of 950 (by decide +kernel) rfl, wall_of 951 (by decide +kernel) rfl, wall_of 0 (by decide +kernel) rfl, wall_of 952 (by decide +kernel) rfl, ⟨by decide, by decide⟩, by decide +kernel⟩
theorem lm_196 : lkV RL 196 RX10 yX10_tied cX10_tied 5 (some .int) 2 := ⟨wall_of 1314 (by decide +kernel) rfl, wall_of 1315 (by decide +kernel) rfl, wall_of 1316 (by decide +kernel) rfl, wall_of 11 (by decide +kernel) rfl, wall_of 1317 (by decide +kernel) rfl, ⟨by decide, by decide⟩, by decide +kernel⟩
theorem lw_197 : lkW 197 yL_certify cL_certify 4 [(0, 9, 12, 13), (0, 9, 15, 17)] 3 := ⟨wall_of 958 (by decide +kernel) rfl, wall_of 959 (by decide +kernel) rfl, wall_of 0 (by decide +kernel) rfl, wall_of 960 (by decide +kernel) rfl, ⟨by decide, by decide⟩, by decide +kernel⟩
theorem lm_199 : lkV RL 199 RX10 yX10_certify cX10_certify 3 (some .int) 1 := ⟨wall_of 1318 (by decide +kernel) rfl, wall_of 1319 (by decide +kernel) rfl, wall_of 1320 (by decide +kernel) rfl, wall_of 11 (by decide +kernel) rfl, wall_of 1321 (by decide +kernel) rfl, ⟨by decide, by decide⟩, by decide +kernel⟩
theorem lw_200 : lkW 200 yL_certified cL_certified 4 [(0, 9, 12, 13)] 3 := ⟨wall_of 966 (by decide +kernel) rfl, wall_of 967 (by decide +kernel) rfl, wall_of 0 (by decide +kernel) rfl, wall_of 968 (by decide +kernel) rfl, ⟨by decide, by decide⟩, by decide +kernel⟩
theorem lm_202 : lkV RL 202 RX10 yX10_certified cX10_certified 2 (some .int) 1 := ⟨wall_of 1322 (by decide +kernel) rfl, wall_of 1323 (by decide +kernel) rfl, wall_of 1324 (by decide +kernel) rfl, wall_of 11 (by decide +kernel) rfl, wall_of 1325 (by decide +kernel) rfl, ⟨by decide, by decide⟩, by decide +kernel⟩
theorem lm_203 : lkV RL 203 RX9 yX9_stale cX9_stale 4 (some .int) 0 := ⟨wall_of 451 (by decide +kernel) rfl, wall_of 452 (by decide +kernel) rfl, wall_of 453 (by decide +kernel) rfl, wall_of 1 (by decide +kernel) rfl, wall_of 454 (by decide +kernel) rfl, ⟨by decide, by decide⟩, by decide +kernel⟩
theorem lm_206 : lkV RL 206 RX10 yX10_stale cX10_stale 3 (some .int) 0 := ⟨wall_of 1326 (by decide +kernel) rfl, wall_of 1327 (by decide +kernel) rfl, wall_of 1328 (by decide +kernel) rfl, wall_of 11 (by decide +kernel) rfl, wall_of 1329 (by decide +kernel) rfl, ⟨by decide, by decide⟩, by decide +kernel⟩
theorem da_1572 : decode code 1572 = .ok (.aload_n 0, 1) ∧ decode code (1572 + 1) = .ok (.iload 4, 2) ∧ decode code (1572 + 3) = .ok (.iconst 1, 1) ∧ decode code (1572 + 4) = .ok (.iadd, 1) ∧ decode code (1572 + 5) = .ok (.iaload, 1) := by decide +kernel
theorem dw_1571 : decode code 1571 = .ok (.aload_n 1, 1) := by decide +kernel
theorem dw_1578 : decode code 1578 = .ok (.aload_n 3, 1) := by decide +kernel
theorem dw_1579 : decode code 1579 = .ok (.invokestatic 191, 3) := by decide +kernel
theorem dw_1582 : decode code 1582 = .ok (.istore 5, 2) := by decide +kernel
theorem dw_1584 : decode code 1584 = .ok (.aload_n 2, 1) := by decide +kernel
theorem da_1585 : decode code 1585 = .ok (.aload_n 0, 1) ∧ decode code (1585 + 1) = .ok (.iload 4, 2) ∧ decode code (1585 + 3) = .ok (.iconst 1, 1) ∧ decode code (1585 + 4) = .ok (.iadd, 1) ∧ decode code (1585 + 5) = .ok (.iaload, 1) := by decide +kernel
theorem dw_1591 : decode code 1591 = .ok (.invokevirtual 193, 3) := by decide +kernel
theorem dw_1594 : decode code 1594 = .ok (.istore 6, 2) := by decide +kernel
theorem dt_1596 : TL 1596 196 := ⟨by decide +kernel, by decide +kernel, by decide +kernel, by decide +kernel, by decide +kernel, by decide +kernel, by decide +kernel, by decide +kernel, by decide +kernel, by decide +kernel, by decide +kernel, by decide +kernel, by decide +kernel, by decide +kernel⟩
theorem da_1628 : decode code 1628 = .ok (.aload_n 0, 1) ∧ decode code (1628 + 1) = .ok (.iload 4, 2) ∧ decode code (1628 + 3) = .ok (.iconst 1, 1) ∧ decode code (1628 + 4) = .ok (.iadd, 1) ∧ decode code (1628 + 5) = .ok (.iaload, 1) := by decide +kernel
theorem da_1634 : decode code 1634 = .ok (.aload_n 0, 1) ∧ decode code (1634 + 1) = .ok (.iload 4, 2) ∧ decode code (1634 + 3) = .ok (.iconst 2, 1) ∧ decode code (1634 + 4) = .ok (.iadd, 1) ∧ decode code (1634 + 5) = .ok (.iaload, 1) := by decide +kernel
theorem dw_1627 : decode code 1627 = .ok (.aload_n 1, 1) := by decide +kernel
theorem dw_1640 : decode code 1640 = .ok (.aload_n 3, 1) := by decide +kernel
theorem dw_1641 : decode code 1641 = .ok (.invokestatic 194, 3) := by decide +kernel
theorem dw_1644 : decode code 1644 = .ok (.istore 5, 2) := by decide +kernel
theorem dw_1646 : decode code 1646 = .ok (.aload_n 2, 1) := by decide +kernel
theorem da_1647 : decode code 1647 = .ok (.aload_n 0, 1) ∧ decode code (1647 + 1) = .ok (.iload 4, 2) ∧ decode code (1647 + 3) = .ok (.iconst 1, 1) ∧ decode code (1647 + 4) = .ok (.iadd, 1) ∧ decode code (1647 + 5) = .ok (.iaload, 1) := by decide +kernel
theorem da_1653 : decode code 1653 = .ok (.aload_n 0, 1) ∧ decode code (1653 + 1) = .ok (.iload 4, 2) ∧ decode code (1653 + 3) = .ok (.iconst 2, 1) ∧ decode code (1653 + 4) = .ok (.iadd, 1) ∧ decode code (1653 + 5) = .ok (.iaload, 1) := by decide +kernel
theorem dw_1659 : decode code 1659 = .ok (.invokevirtual 196, 3) := by decide +kernel
theorem dw_1662 : decode code 1662 = .ok (.istore 6, 2) := by decide +kernel
theorem dt_1664 : TL 1664 128 := ⟨by decide +kernel, by decide +kernel, by decide +kernel, by decide +kernel, by decide +kernel, by decide +kernel, by decide +kernel, by decide +kernel, by decide +kernel, by decide +kernel, by decide +kernel, by decide +kernel, by decide +kernel, by decide +kernel⟩
theorem da_1696 : decode code 1696 = .ok (.aload_n 0, 1) ∧ decode code (1696 + 1) = .ok (.iload 4, 2) ∧ decode code (1696 + 3) = .ok (.iconst 1, 1) ∧ decode code (1696 + 4) = .ok (.iadd, 1) ∧ decode code (1696 + 5) = .ok (.iaload, 1) := by decide +kernel
theorem dw_1695 : decode code 1695 = .ok (.aload_n 1, 1) := by decide +kernel
theorem dw_1702 : decode code 1702 = .ok (.aload_n 3, 1) := by decide +kernel
theorem dw_1703 : decode code 1703 = .ok (.invokestatic 197, 3) := by decide +kernel
theorem dw_1706 : decode code 1706 = .ok (.istore 5, 2) := by decide +kernel
theorem dw_1708 : decode code 1708 = .ok (.aload_n 2, 1) := by decide +kernel
theorem da_1709 : decode code 1709 = .ok (.aload_n 0, 1) ∧ decode code (1709 + 1) = .ok (.iload 4, 2) ∧ decode code (1709 + 3) = .ok (.iconst 1, 1) ∧ decode code (1709 + 4) = .ok (.iadd, 1) ∧ decode code (1709 + 5) = .ok (.iaload, 1) := by decide +kernel
theorem dw_1715 : decode code 1715 = .ok (.invokevirtual 199, 3) := by decide +kernel
theorem dw_1718 : decode code 1718 = .ok (.istore 6, 2) := by decide +kernel
theorem dt_1720 : TL 1720 72 := ⟨by decide +kernel, by decide +kernel, by decide +kernel, by decide +kernel, by decide +kernel, by decide +kernel, by decide +kernel, by decide +kernel, by decide +kernel, by decide +kernel, by decide +kernel, by decide +kernel, by decide +kernel, by decide +kernel⟩
theorem da_1752 : decode code 1752 = .ok (.aload_n 0, 1) ∧ decode code (1752 + 1) = .ok (.iload 4, 2) ∧ decode code (1752 + 3) = .ok (.iconst 1, 1) ∧ decode code (1752 + 4) = .ok (.iadd, 1) ∧ decode code (1752 + 5) = .ok (.iaload, 1) := by decide +kernel
theorem dw_1751 : decode code 1751 = .ok (.aload_n 1, 1) := by decide +kernel
theorem dw_1758 : decode code 1758 = .ok (.aload_n 3, 1) := by decide +kernel
theorem dw_1759 : decode code 1759 = .ok (.invokestatic 200, 3) := by decide +kernel
theorem dw_1762 : decode code 1762 = .ok (.istore 5, 2) := by decide +kernel
theorem dw_1764 : decode code 1764 = .ok (.aload_n 2, 1) := by decide +kernel
theorem da_1765 : decode code 1765 = .ok (.aload_n 0, 1) ∧ decode code (1765 + 1) = .ok (.iload 4, 2) ∧ decode code (1765 + 3) = .ok (.iconst 1, 1) ∧ decode code (1765 + 4) = .ok (.iadd, 1) ∧ decode code (1765 + 5) = .ok (.iaload, 1) := by decide +kernel
theorem dw_1771 : decode code 1771 = .ok (.invokevirtual 202, 3) := by decide +kernel
theorem dw_1774 : decode code 1774 = .ok (.istore 6, 2) := by decide +kernel
theorem dt_1776 : TL 1776 16 := ⟨by decide +kernel, by decide +kernel, by decide +kernel, by decide +kernel, by decide +kernel, by decide +kernel, by decide +kernel, by decide +kernel, by decide +kernel, by decide +kernel, by decide +kernel, by decide +kernel, by decide +kernel, by decide +kernel⟩
theorem dw_1807 : decode code 1807 = .ok (.aload_n 1, 1) := by decide +kernel
theorem dw_1808 : decode code 1808 = .ok (.invokevirtual 203, 3) := by decide +kernel
theorem dw_1811 : decode code 1811 = .ok (.aload_n 2, 1) := by decide +kernel
theorem dw_1812 : decode code 1812 = .ok (.invokevirtual 206, 3) := by decide +kernel
theorem dw_1815 : decode code 1815 = .ok (.if_icmp .eq 5, 3) := by decide +kernel
section CASES4
variable {p : Program} {l : Launch} {e : Env} {s : State} {m : MethodId} {below : List Frame} {meth : Method} {c : Code} {bb L : Nat} {xs : Nat → Int32} {D : va_G} {dA : Nat → ClassId} {q qm : Nat → Nat} {qo : Nat} {t i : Nat} {w u : Wt} {o : Int64} {H : Heap} {locs : List Loc} {cells slots : Nat} {ls : Array Slot}
set_option maxHeartbeats 4000000 in
set_option maxRecDepth 20000 in
theorem case_24 (X : LX p s m meth c bb L xs l D dA q qm qo) (hI : Inv t w u) (ht : t ≤ 600) (S : LSt D dA q qm qo s.heap w u o H locs) (hi : i + 4 < L) (hl : lv_has ls 7 [(0, .ref bb), (1, .ref (q 0)), (2, .ref (qm 0)), (3, .ref qo), (4, .int (nI i))]) (hf : cells + 4 ≤ room_1.cells ∧ slots + 24 ≤ room_1.slots) (kk : NX p l e s m below meth c bb D dA q qm qo t i cells slots) : W p l e room_1 s m #[Value.ref bb] below meth c H locs cells slots (lw_Z below #[Value.ref bb] s) (F0 m 1571 ls []) := by
  obtain ⟨⟨hx, hb, hr, hml, hown, hts, hX, hbl, hlocks, hgv⟩, hfl, hL, C⟩ := X
  obtain ⟨res, w', z, u', e1, e2, hI', hA⟩ := q_ties hI (xs (i + 1))
  refine lv_aload_n hx hb dw_1571 rfl (lv_at hl 1 rfl) ?_
  refine law_a 1 hx hb hX hbl S.2.2.2 hl (k0 := 0) (k4 := 4) rfl rfl (by omega) hL da_1572 (by decide) ?_
  refine lv_aload_n hx hb dw_1578 rfl (lv_at hl 3 rfl) ?_
  refine law_h (av := [.ref (q 0), .int (xs (i + 1)), .ref qo]) lw_191 hx hb hml C S (c_L_ties l hfl D dA q qo (xs (i + 1)) w w' o res e1 (fun k hk => by have h9 := hA.1 k hk; simp at h9; exact h9)) rfl hl.1 rfl (by decide) dw_1579 ⟨(Nat.le_of_ble_eq_true rfl), (Nat.le_of_ble_eq_true rfl)⟩ hf (fun H locs S => ?_)
  refine lv_istore (lv' := [(5, .int (cdX [0] res)), (0, .ref bb), (1, .ref (q 0)), (2, .ref (qm 0)), (3, .ref qo), (4, .int (nI i))]) hx hb dw_1582 hl (by decide) rfl (fun ls hl => ?_)
  refine lv_aload_n hx hb dw_1584 rfl (lv_at hl 3 rfl) ?_
  refine law_a 1 hx hb hX hbl S.2.2.2 hl (k0 := 1) (k4 := 5) rfl rfl (by omega) hL da_1585 (by decide) ?_
  refine law_m (rm := RM_m_ties) (As := [.int (xs (i + 1))]) lm_193 hx hb hml C S (c_m_ties l D dA qm (xs (i + 1)) u u' z e2) rfl rfl ⟨(Nat.le_of_ble_eq_true rfl), (Nat.le_of_ble_eq_true rfl)⟩ rfl hl.1 rfl (by decide) dw_1591 ⟨by omega, by omega⟩ (fun H locs S => ?_)
  refine lv_istore (lv' := [(6, .int z), (5, .int (cdX [0] res)), (0, .ref bb), (1, .ref (q 0)), (2, .ref (qm 0)), (3, .ref qo), (4, .int (nI i))]) hx hb dw_1594 hl (by decide) rfl (fun ls hl => ?_)
  exact law_t dt_1596 (by decide) hx hb hml C S hl hA.2.1 (hA.o (by decide) o) ⟨(Nat.le_of_ble_eq_true rfl), (Nat.le_of_ble_eq_true rfl)⟩ ⟨by omega, by omega⟩ (fun H locs S => kk w' u' _ H locs ls hI' S (lv_sub hl [2, 3, 4, 5, 6] rfl))
set_option maxHeartbeats 4000000 in
set_option maxRecDepth 20000 in
theorem case_25 (X : LX p s m meth c bb L xs l D dA q qm qo) (hI : Inv t w u) (ht : t ≤ 600) (S : LSt D dA q qm qo s.heap w u o H locs) (hi : i + 4 < L) (hl : lv_has ls 7 [(0, .ref bb), (1, .ref (q 0)), (2, .ref (qm 0)), (3, .ref qo), (4, .int (nI i))]) (hf : cells + 4 ≤ room_1.cells ∧ slots + 24 ≤ room_1.slots) (kk : NX p l e s m below meth c bb D dA q qm qo t i cells slots) : W p l e room_1 s m #[Value.ref bb] below meth c H locs cells slots (lw_Z below #[Value.ref bb] s) (F0 m 1627 ls []) := by
  obtain ⟨⟨hx, hb, hr, hml, hown, hts, hX, hbl, hlocks, hgv⟩, hfl, hL, C⟩ := X
  obtain ⟨res, w', z, u', e1, e2, hI', hA⟩ := q_tied hI (xs (i + 1)) (xs (i + 2))
  refine lv_aload_n hx hb dw_1627 rfl (lv_at hl 1 rfl) ?_
  refine law_a 1 hx hb hX hbl S.2.2.2 hl (k0 := 0) (k4 := 4) rfl rfl (by omega) hL da_1628 (by decide) ?_
  refine law_a 2 hx hb hX hbl S.2.2.2 hl (k0 := 0) (k4 := 4) rfl rfl (by omega) hL da_1634 (by decide) ?_
  refine lv_aload_n hx hb dw_1640 rfl (lv_at hl 3 rfl) ?_
  refine law_h (av := [.ref (q 0), .int (xs (i + 1)), .int (xs (i + 2)), .ref qo]) lw_194 hx hb hml C S (c_L_tied l hfl D dA q qo (xs (i + 1)) (xs (i + 2)) w w' o res e1 (fun k hk => by have h9 := hA.1 k hk; simp at h9; exact h9)) rfl hl.1 rfl (by decide) dw_1641 ⟨(Nat.le_of_ble_eq_true rfl), (Nat.le_of_ble_eq_true rfl)⟩ hf (fun H locs S => ?_)
  refine lv_istore (lv' := [(5, .int (cdX [0] res)), (0, .ref bb), (1, .ref (q 0)), (2, .ref (qm 0)), (3, .ref qo), (4, .int (nI i))]) hx hb dw_1644 hl (by decide) rfl (fun ls hl => ?_)
  refine lv_aload_n hx hb dw_1646 rfl (lv_at hl 3 rfl) ?_
  refine law_a 1 hx hb hX hbl S.2.2.2 hl (k0 := 1) (k4 := 5) rfl rfl (by omega) hL da_1647 (by decide) ?_
  refine law_a 2 hx hb hX hbl S.2.2.2 hl (k0 := 1) (k4 := 5) rfl rfl (by omega) hL da_1653 (by decide) ?_
  refine law_m (rm := RM_m_tied) (As := [.int (xs (i + 1)), .int (xs (i + 2))]) lm_196 hx hb hml C S (c_m_tied l D dA qm (xs (i + 1)) (xs (i + 2)) u u' z e2) rfl rfl ⟨(Nat.le_of_ble_eq_true rfl), (Nat.le_of_ble_eq_true rfl)⟩ rfl hl.1 rfl (by decide) dw_1659 ⟨by omega, by omega⟩ (fun H locs S => ?_)
  refine lv_istore (lv' := [(6, .int z), (5, .int (cdX [0] res)), (0, .ref bb), (1, .ref (q 0)), (2, .ref (qm 0)), (3, .ref qo), (4, .int (nI i))]) hx hb dw_1662 hl (by decide) rfl (fun ls hl => ?_)
  exact law_t dt_1664 (by decide) hx hb hml C S hl hA.2.1 (hA.o (by decide) o) ⟨(Nat.le_of_ble_eq_true rfl), (Nat.le_of_ble_eq_true rfl)⟩ ⟨by omega, by omega⟩ (fun H locs S => kk w' u' _ H locs ls hI' S (lv_sub hl [2, 3, 4, 5, 6] rfl))
set_option maxHeartbeats 4000000 in
set_option maxRecDepth 20000 in
theorem case_26 (X : LX p s m meth c bb L xs l D dA q qm qo) (hI : Inv t w u) (ht : t ≤ 600) (S : LSt D dA q qm qo s.heap w u o H locs) (hi : i + 4 < L) (hl : lv_has ls 7 [(0, .ref bb), (1, .ref (q 0)), (2, .ref (qm 0)), (3, .ref qo), (4, .int (nI i))]) (hf : cells + 4 ≤ room_1.cells ∧ slots + 24 ≤ room_1.slots) (kk : NX p l e s m below meth c bb D dA q qm qo t i cells slots) : W p l e room_1 s m #[Value.ref bb] below meth c H locs cells slots (lw_Z below #[Value.ref bb] s) (F0 m 1695 ls []) := by
  obtain ⟨⟨hx, hb, hr, hml, hown, hts, hX, hbl, hlocks, hgv⟩, hfl, hL, C⟩ := X
  obtain ⟨res, w', z, u', e1, e2, hI', hA⟩ := q_certify hI (xs (i + 1))
  refine lv_aload_n hx hb dw_1695 rfl (lv_at hl 1 rfl) ?_
  refine law_a 1 hx hb hX hbl S.2.2.2 hl (k0 := 0) (k4 := 4) rfl rfl (by omega) hL da_1696 (by decide) ?_
  refine lv_aload_n hx hb dw_1702 rfl (lv_at hl 3 rfl) ?_
  refine law_h (av := [.ref (q 0), .int (xs (i + 1)), .ref qo]) lw_197 hx hb hml C S (c_L_certify l hfl D dA q qo (xs (i + 1)) w w' o res e1 (fun k hk => by have h9 := hA.1 k hk; simp at h9; exact h9)) rfl hl.1 rfl (by decide) dw_1703 ⟨(Nat.le_of_ble_eq_true rfl), (Nat.le_of_ble_eq_true rfl)⟩ hf (fun H locs S => ?_)
  refine lv_istore (lv' := [(5, .int (cdX [0, 2] res)), (0, .ref bb), (1, .ref (q 0)), (2, .ref (qm 0)), (3, .ref qo), (4, .int (nI i))]) hx hb dw_1706 hl (by decide) rfl (fun ls hl => ?_)
  refine lv_aload_n hx hb dw_1708 rfl (lv_at hl 3 rfl) ?_
  refine law_a 1 hx hb hX hbl S.2.2.2 hl (k0 := 1) (k4 := 5) rfl rfl (by omega) hL da_1709 (by decide) ?_
  refine law_m (rm := RM_m_certify) (As := [.int (xs (i + 1))]) lm_199 hx hb hml C S (c_m_certify l D dA qm (xs (i + 1)) u u' z e2) rfl rfl ⟨(Nat.le_of_ble_eq_true rfl), (Nat.le_of_ble_eq_true rfl)⟩ rfl hl.1 rfl (by decide) dw_1715 ⟨by omega, by omega⟩ (fun H locs S => ?_)
  refine lv_istore (lv' := [(6, .int z), (5, .int (cdX [0, 2] res)), (0, .ref bb), (1, .ref (q 0)), (2, .ref (qm 0)), (3, .ref qo), (4, .int (nI i))]) hx hb dw_1718 hl (by decide) rfl (fun ls hl => ?_)
  exact law_t dt_1720 (by decide) hx hb hml C S hl hA.2.1 (hA.o (by decide) o) ⟨(Nat.le_of_ble_eq_true rfl), (Nat.le_of_ble_eq_true rfl)⟩ ⟨by omega, by omega⟩ (fun H locs S => kk w' u' _ H locs ls hI' S (lv_sub hl [2, 3, 4, 5, 6] rfl))
set_option maxHeartbeats 4000000 in
set_option maxRecDepth 20000 in
theorem case_27 (X : LX p s m meth c bb L xs l D dA q qm qo) (hI : Inv t w u) (ht : t ≤ 600) (S : LSt D dA q qm qo s.heap w u o H locs) (hi : i + 4 < L) (hl : lv_has ls 7 [(0, .ref bb), (1, .ref (q 0)), (2, .ref (qm 0)), (3, .ref qo), (4, .int (nI i))]) (hf : cells + 4 ≤ room_1.cells ∧ slots + 24 ≤ room_1.slots) (kk : NX p l e s m below meth c bb D dA q qm qo t i cells slots) : W p l e room_1 s m #[Value.ref bb] below meth c H locs cells slots (lw_Z below #[Value.ref bb] s) (F0 m 1751 ls []) := by
  obtain ⟨⟨hx, hb, hr, hml, hown, hts, hX, hbl, hlocks, hgv⟩, hfl, hL, C⟩ := X
  obtain ⟨res, z, u', e1, e2, hI', hA⟩ := q_certified hI (xs (i + 1))
  refine lv_aload_n hx hb dw_1751 rfl (lv_at hl 1 rfl) ?_
  refine law_a 1 hx hb hX hbl S.2.2.2 hl (k0 := 0) (k4 := 4) rfl rfl (by omega) hL da_1752 (by decide) ?_
  refine lv_aload_n hx hb dw_1758 rfl (lv_at hl 3 rfl) ?_
  refine law_h (av := [.ref (q 0), .int (xs (i + 1)), .ref qo]) lw_200 hx hb hml C S (c_L_certified l hfl D dA q qo (xs (i + 1)) w o res e1 (fun k hk => by have h9 := hA.1 k hk; simp at h9; exact h9)) rfl hl.1 rfl (by decide) dw_1759 ⟨(Nat.le_of_ble_eq_true rfl), (Nat.le_of_ble_eq_true rfl)⟩ hf (fun H locs S => ?_)
  refine lv_istore (lv' := [(5, .int (cdX [0] res)), (0, .ref bb), (1, .ref (q 0)), (2, .ref (qm 0)), (3, .ref qo), (4, .int (nI i))]) hx hb dw_1762 hl (by decide) rfl (fun ls hl => ?_)
  refine lv_aload_n hx hb dw_1764 rfl (lv_at hl 3 rfl) ?_
  refine law_a 1 hx hb hX hbl S.2.2.2 hl (k0 := 1) (k4 := 5) rfl rfl (by omega) hL da_1765 (by decide) ?_
  refine law_m (rm := RM_m_certified) (As := [.int (xs (i + 1))]) lm_202 hx hb hml C S (c_m_certified l D dA qm (xs (i + 1)) u u' z e2) rfl rfl ⟨(Nat.le_of_ble_eq_true rfl), (Nat.le_of_ble_eq_true rfl)⟩ rfl hl.1 rfl (by decide) dw_1771 ⟨by omega, by omega⟩ (fun H locs S => ?_)
  refine lv_istore (lv' := [(6, .int z), (5, .int (cdX [0] res)), (0, .ref bb), (1, .ref (q 0)), (2, .ref (qm 0)), (3, .ref qo), (4, .int (nI i))]) hx hb dw_1774 hl (by decide) rfl (fun ls hl => ?_)
  exact law_t dt_1776 (by decide) hx hb hml C S hl hA.2.1 (hA.o (by decide) o) ⟨(Nat.le_of_ble_eq_true rfl), (Nat.le_of_ble_eq_true rfl)⟩ ⟨by omega, by omega⟩ (fun H locs S => kk w u' _ H locs ls hI' S (lv_sub hl [2, 3, 4, 5, 6] rfl))
set_option maxHeartbeats 4000000 in
set_option maxRecDepth 20000 in
theorem case_28 (X : LX p s m meth c bb L xs l D dA q qm qo) (hI : Inv t w u) (ht : t ≤ 600) (S : LSt D dA q qm qo s.heap w u o H locs) (hi : i + 4 < L) (hl : lv_has ls 7 [(0, .ref bb), (1, .ref (q 0)), (2, .ref (qm 0)), (3, .ref qo), (4, .int (nI i))]) (hf : cells + 4 ≤ room_1.cells ∧ slots + 24 ≤ room_1.slots) (kk : NX p l e s m below meth c bb D dA q qm qo t i cells slots) : W p l e room_1 s m #[Value.ref bb] below meth c H locs cells slots (lw_Z below #[Value.ref bb] s) (F0 m 1807 ls []) := by
  obtain ⟨⟨hx, hb, hr, hml, hown, hts, hX, hbl, hlocks, hgv⟩, hfl, hL, C⟩ := X
  obtain ⟨z, w', u', e1, e2, hI', hz⟩ := q_stale hI
  refine lv_aload_n hx hb dw_1807 rfl (lv_at hl 1 rfl) ?_
  refine law_c (rm := RM_f_Ballotscript_stale) (As := []) lm_203 hx hb hml C S (c_f_Ballotscript_stale l D dA q w w' z e1) rfl rfl ⟨(Nat.le_of_ble_eq_true rfl), (Nat.le_of_ble_eq_true rfl)⟩ rfl hl.1 rfl (by decide) dw_1808 ⟨by omega, by omega⟩ (fun H locs S => ?_)
  refine lv_aload_n hx hb dw_1811 rfl (lv_at hl 2 rfl) ?_
  refine law_m (rm := RM_m_stale) (As := []) lm_206 hx hb hml C S (c_m_stale l D dA qm u u' z e2) rfl rfl ⟨(Nat.le_of_ble_eq_true rfl), (Nat.le_of_ble_eq_true rfl)⟩ rfl hl.1 rfl (Nat.le_of_ble_eq_true rfl) dw_1812 ⟨by omega, by omega⟩ (fun H locs S => ?_)
  refine lv_icmp_eq (tgt := 1820) hx hb dw_1815 (by decide) (fun _ => ?_) (fun g => absurd rfl g)
  refine W.widen (k := cells + 4) (n := slots + 24) (by omega) (by omega) ?_
  exact kk w' u' _ H locs ls hI' S hl
end CASES4

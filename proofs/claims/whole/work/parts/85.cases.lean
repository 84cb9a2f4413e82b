/-! THE LAW'S CASES, on -/
theorem lm_133 : lkV RL 133 RX9 yX9_fault cX9_fault 1 (some .int) 0 := ⟨wall_of 349 (by decide +kernel) rfl, wall_of 350 (by decide +kernel) rfl, wall_of 351 (by decide +kernel) rfl, wall_of 1 (by decide +kernel) rfl, wall_of 352 (by decide +kernel) rfl, ⟨by decide, by decide⟩, by decide +kernel⟩
theorem lm_136 : lkV RL 136 RX10 yX10_fault cX10_fault 1 (some .int) 0 := ⟨wall_of 1171 (by decide +kernel) rfl, wall_of 1172 (by decide +kernel) rfl, wall_of 1173 (by decide +kernel) rfl, wall_of 11 (by decide +kernel) rfl, wall_of 1174 (by decide +kernel) rfl, ⟨by decide, by decide⟩, by decide +kernel⟩
theorem lw_137 : lkW 137 yL_rule cL_rule 3 [(0, 8, 11, 15), (0, 8, 14, 17)] 2 := ⟨wall_of 745 (by decide +kernel) rfl, wall_of 746 (by decide +kernel) rfl, wall_of 0 (by decide +kernel) rfl, wall_of 747 (by decide +kernel) rfl, ⟨by decide, by decide⟩, by decide +kernel⟩
theorem lm_140 : lkV RL 140 RX10 yX10_rule cX10_rule 1 (some .int) 0 := ⟨wall_of 1182 (by decide +kernel) rfl, wall_of 1183 (by decide +kernel) rfl, wall_of 1184 (by decide +kernel) rfl, wall_of 11 (by decide +kernel) rfl, wall_of 1185 (by decide +kernel) rfl, ⟨by decide, by decide⟩, by decide +kernel⟩
theorem lw_141 : lkW 141 yL_mend cL_mend 4 [(0, 9, 12, 13), (0, 9, 15, 15)] 3 := ⟨wall_of 763 (by decide +kernel) rfl, wall_of 764 (by decide +kernel) rfl, wall_of 0 (by decide +kernel) rfl, wall_of 765 (by decide +kernel) rfl, ⟨by decide, by decide⟩, by decide +kernel⟩
theorem lm_143 : lkV RL 143 RX10 yX10_mend cX10_mend 4 (some .int) 1 := ⟨wall_of 1190 (by decide +kernel) rfl, wall_of 1191 (by decide +kernel) rfl, wall_of 1192 (by decide +kernel) rfl, wall_of 11 (by decide +kernel) rfl, wall_of 1193 (by decide +kernel) rfl, ⟨by decide, by decide⟩, by decide +kernel⟩
theorem lw_144 : lkW 144 yL_commands cL_commands 4 [(0, 9, 12, 13)] 3 := ⟨wall_of 771 (by decide +kernel) rfl, wall_of 772 (by decide +kernel) rfl, wall_of 0 (by decide +kernel) rfl, wall_of 773 (by decide +kernel) rfl, ⟨by decide, by decide⟩, by decide +kernel⟩
theorem lm_146 : lkV RL 146 RX10 yX10_commands cX10_commands 4 (some .int) 1 := ⟨wall_of 1240 (by decide +kernel) rfl, wall_of 1241 (by decide +kernel) rfl, wall_of 1242 (by decide +kernel) rfl, wall_of 11 (by decide +kernel) rfl, wall_of 1243 (by decide +kernel) rfl, ⟨by decide, by decide⟩, by decide +kernel⟩
theorem lw_147 : lkW 147 yL_open cL_open 7 [(0, 14, 17, 13), (0, 14, 21, 15), (0, 14, 25, 17)] 6 := ⟨wall_of 778 (by decide +kernel) rfl, wall_of 779 (by decide +kernel) rfl, wall_of 0 (by decide +kernel) rfl, wall_of 780 (by decide +kernel) rfl, ⟨by decide, by decide⟩, by decide +kernel⟩
theorem lm_149 : lkV RL 149 RX10 yX10_open cX10_open 6 (some .int) 4 := ⟨wall_of 1244 (by decide +kernel) rfl, wall_of 1245 (by decide +kernel) rfl, wall_of 1246 (by decide +kernel) rfl, wall_of 11 (by decide +kernel) rfl, wall_of 1247 (by decide +kernel) rfl, ⟨by decide, by decide⟩, by decide +kernel⟩
theorem lw_150 : lkW 150 yL_close cL_close 4 [(0, 9, 12, 13), (0, 9, 15, 17)] 3 := ⟨wall_of 792 (by decide +kernel) rfl, wall_of 793 (by decide +kernel) rfl, wall_of 0 (by decide +kernel) rfl, wall_of 794 (by decide +kernel) rfl, ⟨by decide, by decide⟩, by decide +kernel⟩
theorem lm_152 : lkV RL 152 RX10 yX10_close cX10_close 3 (some .int) 1 := ⟨wall_of 1248 (by decide +kernel) rfl, wall_of 1249 (by decide +kernel) rfl, wall_of 1250 (by decide +kernel) rfl, wall_of 11 (by decide +kernel) rfl, wall_of 1251 (by decide +kernel) rfl, ⟨by decide, by decide⟩, by decide +kernel⟩
theorem dw_530 : decode code 530 = .ok (.aload_n 1, 1) := by decide +kernel
theorem dw_531 : decode code 531 = .ok (.invokevirtual 133, 3) := by decide +kernel
theorem dw_534 : decode code 534 = .ok (.aload_n 2, 1) := by decide +kernel
theorem dw_535 : decode code 535 = .ok (.invokevirtual 136, 3) := by decide +kernel
theorem dw_538 : decode code 538 = .ok (.if_icmp .eq 1282, 3) := by decide +kernel
theorem dw_543 : decode code 543 = .ok (.aload_n 1, 1) := by decide +kernel
theorem dw_544 : decode code 544 = .ok (.aload_n 3, 1) := by decide +kernel
theorem dw_545 : decode code 545 = .ok (.invokestatic 137, 3) := by decide +kernel
theorem dw_548 : decode code 548 = .ok (.istore 5, 2) := by decide +kernel
theorem dw_550 : decode code 550 = .ok (.aload_n 2, 1) := by decide +kernel
theorem dw_551 : decode code 551 = .ok (.invokevirtual 140, 3) := by decide +kernel
theorem dw_554 : decode code 554 = .ok (.istore 6, 2) := by decide +kernel
theorem dt_556 : TL 556 1236 := ⟨by decide +kernel, by decide +kernel, by decide +kernel, by decide +kernel, by decide +kernel, by decide +kernel, by decide +kernel, by decide +kernel, by decide +kernel, by decide +kernel, by decide +kernel, by decide +kernel, by decide +kernel, by decide +kernel⟩
theorem da_588 : decode code 588 = .ok (.aload_n 0, 1) ∧ decode code (588 + 1) = .ok (.iload 4, 2) ∧ decode code (588 + 3) = .ok (.iconst 1, 1) ∧ decode code (588 + 4) = .ok (.iadd, 1) ∧ decode code (588 + 5) = .ok (.iaload, 1) := by decide +kernel
theorem dw_587 : decode code 587 = .ok (.aload_n 1, 1) := by decide +kernel
theorem dw_594 : decode code 594 = .ok (.aload_n 3, 1) := by decide +kernel
theorem dw_595 : decode code 595 = .ok (.invokestatic 141, 3) := by decide +kernel
theorem dw_598 : decode code 598 = .ok (.istore 5, 2) := by decide +kernel
theorem dw_600 : decode code 600 = .ok (.aload_n 2, 1) := by decide +kernel
theorem da_601 : decode code 601 = .ok (.aload_n 0, 1) ∧ decode code (601 + 1) = .ok (.iload 4, 2) ∧ decode code (601 + 3) = .ok (.iconst 1, 1) ∧ decode code (601 + 4) = .ok (.iadd, 1) ∧ decode code (601 + 5) = .ok (.iaload, 1) := by decide +kernel
theorem dw_607 : decode code 607 = .ok (.invokevirtual 143, 3) := by decide +kernel
theorem dw_610 : decode code 610 = .ok (.istore 6, 2) := by decide +kernel
theorem dt_612 : TL 612 1180 := ⟨by decide +kernel, by decide +kernel, by decide +kernel, by decide +kernel, by decide +kernel, by decide +kernel, by decide +kernel, by decide +kernel, by decide +kernel, by decide +kernel, by decide +kernel, by decide +kernel, by decide +kernel, by decide +kernel⟩
theorem da_644 : decode code 644 = .ok (.aload_n 0, 1) ∧ decode code (644 + 1) = .ok (.iload 4, 2) ∧ decode code (644 + 3) = .ok (.iconst 1, 1) ∧ decode code (644 + 4) = .ok (.iadd, 1) ∧ decode code (644 + 5) = .ok (.iaload, 1) := by decide +kernel
theorem dw_643 : decode code 643 = .ok (.aload_n 1, 1) := by decide +kernel
theorem dw_650 : decode code 650 = .ok (.aload_n 3, 1) := by decide +kernel
theorem dw_651 : decode code 651 = .ok (.invokestatic 144, 3) := by decide +kernel
theorem dw_654 : decode code 654 = .ok (.istore 5, 2) := by decide +kernel
theorem dw_656 : decode code 656 = .ok (.aload_n 2, 1) := by decide +kernel
theorem da_657 : decode code 657 = .ok (.aload_n 0, 1) ∧ decode code (657 + 1) = .ok (.iload 4, 2) ∧ decode code (657 + 3) = .ok (.iconst 1, 1) ∧ decode code (657 + 4) = .ok (.iadd, 1) ∧ decode code (657 + 5) = .ok (.iaload, 1) := by decide +kernel
theorem dw_663 : decode code 663 = .ok (.invokevirtual 146, 3) := by decide +kernel
theorem dw_666 : decode code 666 = .ok (.istore 6, 2) := by decide +kernel
theorem dt_668 : TL 668 1124 := ⟨by decide +kernel, by decide +kernel, by decide +kernel, by decide +kernel, by decide +kernel, by decide +kernel, by decide +kernel, by decide +kernel, by decide +kernel, by decide +kernel, by decide +kernel, by decide +kernel, by decide +kernel, by decide +kernel⟩
theorem da_700 : decode code 700 = .ok (.aload_n 0, 1) ∧ decode code (700 + 1) = .ok (.iload 4, 2) ∧ decode code (700 + 3) = .ok (.iconst 1, 1) ∧ decode code (700 + 4) = .ok (.iadd, 1) ∧ decode code (700 + 5) = .ok (.iaload, 1) := by decide +kernel
theorem da_706 : decode code 706 = .ok (.aload_n 0, 1) ∧ decode code (706 + 1) = .ok (.iload 4, 2) ∧ decode code (706 + 3) = .ok (.iconst 2, 1) ∧ decode code (706 + 4) = .ok (.iadd, 1) ∧ decode code (706 + 5) = .ok (.iaload, 1) := by decide +kernel
theorem da_712 : decode code 712 = .ok (.aload_n 0, 1) ∧ decode code (712 + 1) = .ok (.iload 4, 2) ∧ decode code (712 + 3) = .ok (.iconst 3, 1) ∧ decode code (712 + 4) = .ok (.iadd, 1) ∧ decode code (712 + 5) = .ok (.iaload, 1) := by decide +kernel
theorem da_718 : decode code 718 = .ok (.aload_n 0, 1) ∧ decode code (718 + 1) = .ok (.iload 4, 2) ∧ decode code (718 + 3) = .ok (.iconst 4, 1) ∧ decode code (718 + 4) = .ok (.iadd, 1) ∧ decode code (718 + 5) = .ok (.iaload, 1) := by decide +kernel
theorem dw_699 : decode code 699 = .ok (.aload_n 1, 1) := by decide +kernel
theorem dw_724 : decode code 724 = .ok (.aload_n 3, 1) := by decide +kernel
theorem dw_725 : decode code 725 = .ok (.invokestatic 147, 3) := by decide +kernel
theorem dw_728 : decode code 728 = .ok (.istore 5, 2) := by decide +kernel
theorem dw_730 : decode code 730 = .ok (.aload_n 2, 1) := by decide +kernel
theorem da_731 : decode code 731 = .ok (.aload_n 0, 1) ∧ decode code (731 + 1) = .ok (.iload 4, 2) ∧ decode code (731 + 3) = .ok (.iconst 1, 1) ∧ decode code (731 + 4) = .ok (.iadd, 1) ∧ decode code (731 + 5) = .ok (.iaload, 1) := by decide +kernel
theorem da_737 : decode code 737 = .ok (.aload_n 0, 1) ∧ decode code (737 + 1) = .ok (.iload 4, 2) ∧ decode code (737 + 3) = .ok (.iconst 2, 1) ∧ decode code (737 + 4) = .ok (.iadd, 1) ∧ decode code (737 + 5) = .ok (.iaload, 1) := by decide +kernel
theorem da_743 : decode code 743 = .ok (.aload_n 0, 1) ∧ decode code (743 + 1) = .ok (.iload 4, 2) ∧ decode code (743 + 3) = .ok (.iconst 3, 1) ∧ decode code (743 + 4) = .ok (.iadd, 1) ∧ decode code (743 + 5) = .ok (.iaload, 1) := by decide +kernel
theorem da_749 : decode code 749 = .ok (.aload_n 0, 1) ∧ decode code (749 + 1) = .ok (.iload 4, 2) ∧ decode code (749 + 3) = .ok (.iconst 4, 1) ∧ decode code (749 + 4) = .ok (.iadd, 1) ∧ decode code (749 + 5) = .ok (.iaload, 1) := by decide +kernel
theorem dw_755 : decode code 755 = .ok (.invokevirtual 149, 3) := by decide +kernel
theorem dw_758 : decode code 758 = .ok (.istore 6, 2) := by decide +kernel
theorem dt_760 : TL 760 1032 := ⟨by decide +kernel, by decide +kernel, by decide +kernel, by decide +kernel, by decide +kernel, by decide +kernel, by decide +kernel, by decide +kernel, by decide +kernel, by decide +kernel, by decide +kernel, by decide +kernel, by decide +kernel, by decide +kernel⟩
theorem da_792 : decode code 792 = .ok (.aload_n 0, 1) ∧ decode code (792 + 1) = .ok (.iload 4, 2) ∧ decode code (792 + 3) = .ok (.iconst 1, 1) ∧ decode code (792 + 4) = .ok (.iadd, 1) ∧ decode code (792 + 5) = .ok (.iaload, 1) := by decide +kernel
theorem dw_791 : decode code 791 = .ok (.aload_n 1, 1) := by decide +kernel
theorem dw_798 : decode code 798 = .ok (.aload_n 3, 1) := by decide +kernel
theorem dw_799 : decode code 799 = .ok (.invokestatic 150, 3) := by decide +kernel
theorem dw_802 : decode code 802 = .ok (.istore 5, 2) := by decide +kernel
theorem dw_804 : decode code 804 = .ok (.aload_n 2, 1) := by decide +kernel
theorem da_805 : decode code 805 = .ok (.aload_n 0, 1) ∧ decode code (805 + 1) = .ok (.iload 4, 2) ∧ decode code (805 + 3) = .ok (.iconst 1, 1) ∧ decode code (805 + 4) = .ok (.iadd, 1) ∧ decode code (805 + 5) = .ok (.iaload, 1) := by decide +kernel
theorem dw_811 : decode code 811 = .ok (.invokevirtual 152, 3) := by decide +kernel
theorem dw_814 : decode code 814 = .ok (.istore 6, 2) := by decide +kernel
theorem dt_816 : TL 816 976 := ⟨by decide +kernel, by decide +kernel, by decide +kernel, by decide +kernel, by decide +kernel, by decide +kernel, by decide +kernel, by decide +kernel, by decide +kernel, by decide +kernel, by decide +kernel, by decide +kernel, by decide +kernel, by decide +kernel⟩
section CASES1
variable {p : Program} {l : Launch} {e : Env} {s : State} {m : MethodId} {below : List Frame} {meth : Method} {c : Code} {bb L : Nat} {xs : Nat → Int32} {D : va_G} {dA : Nat → ClassId} {q qm : Nat → Nat} {qo : Nat} {t i : Nat} {w u : Wt} {o : Int64} {H : Heap} {locs : List Loc} {cells slots : Nat} {ls : Array Slot}
set_option maxHeartbeats 4000000 in
set_option maxRecDepth 20000 in
theorem case_6 (X : LX p s m meth c bb L xs l D dA q qm qo) (hI : Inv t w u) (ht : t ≤ 600) (S : LSt D dA q qm qo s.heap w u o H locs) (hi : i + 4 < L) (hl : lv_has ls 7 [(0, .ref bb), (1, .ref (q 0)), (2, .ref (qm 0)), (3, .ref qo), (4, .int (nI i))]) (hf : cells + 4 ≤ room_1.cells ∧ slots + 24 ≤ room_1.slots) (kk : NX p l e s m below meth c bb D dA q qm qo t i cells slots) : W p l e room_1 s m #[Value.ref bb] below meth c H locs cells slots (lw_Z below #[Value.ref bb] s) (F0 m 530 ls []) := by
  obtain ⟨⟨hx, hb, hr, hml, hown, hts, hX, hbl, hlocks, hgv⟩, hfl, hL, C⟩ := X
  obtain ⟨z, u', e1, e2, hI'⟩ := q_fault hI
  refine lv_aload_n hx hb dw_530 rfl (lv_at hl 1 rfl) ?_
  refine law_c (rm := RM_f_Ballotscript_fault) (As := []) lm_133 hx hb hml C S (c_f_Ballotscript_fault l D dA q w z e1) rfl rfl ⟨(Nat.le_of_ble_eq_true rfl), (Nat.le_of_ble_eq_true rfl)⟩ rfl hl.1 rfl (by decide) dw_531 ⟨by omega, by omega⟩ (fun H locs S => ?_)
  refine lv_aload_n hx hb dw_534 rfl (lv_at hl 2 rfl) ?_
  refine law_m (rm := RM_m_fault) (As := []) lm_136 hx hb hml C S (c_m_fault l D dA qm u u' z e2) rfl rfl ⟨(Nat.le_of_ble_eq_true rfl), (Nat.le_of_ble_eq_true rfl)⟩ rfl hl.1 rfl (Nat.le_of_ble_eq_true rfl) dw_535 ⟨by omega, by omega⟩ (fun H locs S => ?_)
  refine lv_icmp_eq (tgt := 1820) hx hb dw_538 (by decide) (fun _ => ?_) (fun g => absurd rfl g)
  refine W.widen (k := cells + 4) (n := slots + 24) (by omega) (by omega) ?_
  exact kk w u' _ H locs ls hI' S hl
set_option maxHeartbeats 4000000 in
set_option maxRecDepth 20000 in
theorem case_7 (X : LX p s m meth c bb L xs l D dA q qm qo) (hI : Inv t w u) (ht : t ≤ 600) (S : LSt D dA q qm qo s.heap w u o H locs) (hi : i + 4 < L) (hl : lv_has ls 7 [(0, .ref bb), (1, .ref (q 0)), (2, .ref (qm 0)), (3, .ref qo), (4, .int (nI i))]) (hf : cells + 4 ≤ room_1.cells ∧ slots + 24 ≤ room_1.slots) (kk : NX p l e s m below meth c bb D dA q qm qo t i cells slots) : W p l e room_1 s m #[Value.ref bb] below meth c H locs cells slots (lw_Z below #[Value.ref bb] s) (F0 m 543 ls []) := by
  obtain ⟨⟨hx, hb, hr, hml, hown, hts, hX, hbl, hlocks, hgv⟩, hfl, hL, C⟩ := X
  obtain ⟨res, w', z, u', e1, e2, hI', hA⟩ := q_rule hI 
  refine lv_aload_n hx hb dw_543 rfl (lv_at hl 1 rfl) ?_
  refine lv_aload_n hx hb dw_544 rfl (lv_at hl 3 rfl) ?_
  refine law_h (av := [.ref (q 0), .ref qo]) lw_137 hx hb hml C S (c_L_rule l hfl D dA q qo  w w' o res e1 (fun k hk => by have h9 := hA.1 k hk; simp at h9; exact h9)) rfl hl.1 rfl (by decide) dw_545 ⟨(Nat.le_of_ble_eq_true rfl), (Nat.le_of_ble_eq_true rfl)⟩ hf (fun H locs S => ?_)
  refine lv_istore (lv' := [(5, .int (cdX [1, 2] res)), (0, .ref bb), (1, .ref (q 0)), (2, .ref (qm 0)), (3, .ref qo), (4, .int (nI i))]) hx hb dw_548 hl (by decide) rfl (fun ls hl => ?_)
  refine lv_aload_n hx hb dw_550 rfl (lv_at hl 3 rfl) ?_
  refine law_m (rm := RM_m_rule) (As := []) lm_140 hx hb hml C S (c_m_rule l D dA qm  u u' z e2) rfl rfl ⟨(Nat.le_of_ble_eq_true rfl), (Nat.le_of_ble_eq_true rfl)⟩ rfl hl.1 rfl (by decide) dw_551 ⟨by omega, by omega⟩ (fun H locs S => ?_)
  refine lv_istore (lv' := [(6, .int z), (5, .int (cdX [1, 2] res)), (0, .ref bb), (1, .ref (q 0)), (2, .ref (qm 0)), (3, .ref qo), (4, .int (nI i))]) hx hb dw_554 hl (by decide) rfl (fun ls hl => ?_)
  exact law_t dt_556 (by decide) hx hb hml C S hl hA.2.1 (hA.o (by decide) o) ⟨(Nat.le_of_ble_eq_true rfl), (Nat.le_of_ble_eq_true rfl)⟩ ⟨by omega, by omega⟩ (fun H locs S => kk w' u' _ H locs ls hI' S (lv_sub hl [2, 3, 4, 5, 6] rfl))
set_option maxHeartbeats 4000000 in
set_option maxRecDepth 20000 in
theorem case_8 (X : LX p s m meth c bb L xs l D dA q qm qo) (hI : Inv t w u) (ht : t ≤ 600) (S : LSt D dA q qm qo s.heap w u o H locs) (hi : i + 4 < L) (hl : lv_has ls 7 [(0, .ref bb), (1, .ref (q 0)), (2, .ref (qm 0)), (3, .ref qo), (4, .int (nI i))]) (hf : cells + 4 ≤ room_1.cells ∧ slots + 24 ≤ room_1.slots) (kk : NX p l e s m below meth c bb D dA q qm qo t i cells slots) : W p l e room_1 s m #[Value.ref bb] below meth c H locs cells slots (lw_Z below #[Value.ref bb] s) (F0 m 587 ls []) := by
  obtain ⟨⟨hx, hb, hr, hml, hown, hts, hX, hbl, hlocks, hgv⟩, hfl, hL, C⟩ := X
  obtain ⟨res, w', z, u', e1, e2, hI', hA⟩ := q_mend hI (xs (i + 1))
  refine lv_aload_n hx hb dw_587 rfl (lv_at hl 1 rfl) ?_
  refine law_a 1 hx hb hX hbl S.2.2.2 hl (k0 := 0) (k4 := 4) rfl rfl (by omega) hL da_588 (by decide) ?_
  refine lv_aload_n hx hb dw_594 rfl (lv_at hl 3 rfl) ?_
  refine law_h (av := [.ref (q 0), .int (xs (i + 1)), .ref qo]) lw_141 hx hb hml C S (c_L_mend l hfl D dA q qo (xs (i + 1)) w w' o res e1 (fun k hk => by have h9 := hA.1 k hk; simp at h9; exact h9)) rfl hl.1 rfl (by decide) dw_595 ⟨(Nat.le_of_ble_eq_true rfl), (Nat.le_of_ble_eq_true rfl)⟩ hf (fun H locs S => ?_)
  refine lv_istore (lv' := [(5, .int (cdX [0, 1] res)), (0, .ref bb), (1, .ref (q 0)), (2, .ref (qm 0)), (3, .ref qo), (4, .int (nI i))]) hx hb dw_598 hl (by decide) rfl (fun ls hl => ?_)
  refine lv_aload_n hx hb dw_600 rfl (lv_at hl 3 rfl) ?_
  refine law_a 1 hx hb hX hbl S.2.2.2 hl (k0 := 1) (k4 := 5) rfl rfl (by omega) hL da_601 (by decide) ?_
  refine law_m (rm := RM_m_mend) (As := [.int (xs (i + 1))]) lm_143 hx hb hml C S (c_m_mend l D dA qm (xs (i + 1)) u u' z e2) rfl rfl ⟨(Nat.le_of_ble_eq_true rfl), (Nat.le_of_ble_eq_true rfl)⟩ rfl hl.1 rfl (by decide) dw_607 ⟨by omega, by omega⟩ (fun H locs S => ?_)
  refine lv_istore (lv' := [(6, .int z), (5, .int (cdX [0, 1] res)), (0, .ref bb), (1, .ref (q 0)), (2, .ref (qm 0)), (3, .ref qo), (4, .int (nI i))]) hx hb dw_610 hl (by decide) rfl (fun ls hl => ?_)
  exact law_t dt_612 (by decide) hx hb hml C S hl hA.2.1 (hA.o (by decide) o) ⟨(Nat.le_of_ble_eq_true rfl), (Nat.le_of_ble_eq_true rfl)⟩ ⟨by omega, by omega⟩ (fun H locs S => kk w' u' _ H locs ls hI' S (lv_sub hl [2, 3, 4, 5, 6] rfl))
set_option maxHeartbeats 4000000 in
set_option maxRecDepth 20000 in
theorem case_9 (X : LX p s m meth c bb L xs l D dA q qm qo) (hI : Inv t w u) (ht : t ≤ 600) (S : LSt D dA q qm qo s.heap w u o H locs) (hi : i + 4 < L) (hl : lv_has ls 7 [(0, .ref bb), (1, .ref (q 0)), (2, .ref (qm 0)), (3, .ref qo), (4, .int (nI i))]) (hf : cells + 4 ≤ room_1.cells ∧ slots + 24 ≤ room_1.slots) (kk : NX p l e s m below meth c bb D dA q qm qo t i cells slots) : W p l e room_1 s m #[Value.ref bb] below meth c H locs cells slots (lw_Z below #[Value.ref bb] s) (F0 m 643 ls []) := by
  obtain ⟨⟨hx, hb, hr, hml, hown, hts, hX, hbl, hlocks, hgv⟩, hfl, hL, C⟩ := X
  obtain ⟨res, z, u', e1, e2, hI', hA⟩ := q_commands hI (xs (i + 1))
  refine lv_aload_n hx hb dw_643 rfl (lv_at hl 1 rfl) ?_
  refine law_a 1 hx hb hX hbl S.2.2.2 hl (k0 := 0) (k4 := 4) rfl rfl (by omega) hL da_644 (by decide) ?_
  refine lv_aload_n hx hb dw_650 rfl (lv_at hl 3 rfl) ?_
  refine law_h (av := [.ref (q 0), .int (xs (i + 1)), .ref qo]) lw_144 hx hb hml C S (c_L_commands l hfl D dA q qo (xs (i + 1)) w o res e1 (fun k hk => by have h9 := hA.1 k hk; simp at h9; exact h9)) rfl hl.1 rfl (by decide) dw_651 ⟨(Nat.le_of_ble_eq_true rfl), (Nat.le_of_ble_eq_true rfl)⟩ hf (fun H locs S => ?_)
  refine lv_istore (lv' := [(5, .int (cdX [0] res)), (0, .ref bb), (1, .ref (q 0)), (2, .ref (qm 0)), (3, .ref qo), (4, .int (nI i))]) hx hb dw_654 hl (by decide) rfl (fun ls hl => ?_)
  refine lv_aload_n hx hb dw_656 rfl (lv_at hl 3 rfl) ?_
  refine law_a 1 hx hb hX hbl S.2.2.2 hl (k0 := 1) (k4 := 5) rfl rfl (by omega) hL da_657 (by decide) ?_
  refine law_m (rm := RM_m_commands) (As := [.int (xs (i + 1))]) lm_146 hx hb hml C S (c_m_commands l D dA qm (xs (i + 1)) u u' z e2) rfl rfl ⟨(Nat.le_of_ble_eq_true rfl), (Nat.le_of_ble_eq_true rfl)⟩ rfl hl.1 rfl (by decide) dw_663 ⟨by omega, by omega⟩ (fun H locs S => ?_)
  refine lv_istore (lv' := [(6, .int z), (5, .int (cdX [0] res)), (0, .ref bb), (1, .ref (q 0)), (2, .ref (qm 0)), (3, .ref qo), (4, .int (nI i))]) hx hb dw_666 hl (by decide) rfl (fun ls hl => ?_)
  exact law_t dt_668 (by decide) hx hb hml C S hl hA.2.1 (hA.o (by decide) o) ⟨(Nat.le_of_ble_eq_true rfl), (Nat.le_of_ble_eq_true rfl)⟩ ⟨by omega, by omega⟩ (fun H locs S => kk w u' _ H locs ls hI' S (lv_sub hl [2, 3, 4, 5, 6] rfl))
set_option maxHeartbeats 4000000 in
set_option maxRecDepth 20000 in
theorem case_10 (X : LX p s m meth c bb L xs l D dA q qm qo) (hI : Inv t w u) (ht : t ≤ 600) (S : LSt D dA q qm qo s.heap w u o H locs) (hi : i + 4 < L) (hl : lv_has ls 7 [(0, .ref bb), (1, .ref (q 0)), (2, .ref (qm 0)), (3, .ref qo), (4, .int (nI i))]) (hf : cells + 4 ≤ room_1.cells ∧ slots + 24 ≤ room_1.slots) (kk : NX p l e s m below meth c bb D dA q qm qo t i cells slots) : W p l e room_1 s m #[Value.ref bb] below meth c H locs cells slots (lw_Z below #[Value.ref bb] s) (F0 m 699 ls []) := by
  obtain ⟨⟨hx, hb, hr, hml, hown, hts, hX, hbl, hlocks, hgv⟩, hfl, hL, C⟩ := X
  obtain ⟨res, w', z, u', e1, e2, hI', hA⟩ := q_open hI (xs (i + 1)) (xs (i + 2)) (xs (i + 3)) (xs (i + 4))
  refine lv_aload_n hx hb dw_699 rfl (lv_at hl 1 rfl) ?_
  refine law_a 1 hx hb hX hbl S.2.2.2 hl (k0 := 0) (k4 := 4) rfl rfl (by omega) hL da_700 (by decide) ?_
  refine law_a 2 hx hb hX hbl S.2.2.2 hl (k0 := 0) (k4 := 4) rfl rfl (by omega) hL da_706 (by decide) ?_
  refine law_a 3 hx hb hX hbl S.2.2.2 hl (k0 := 0) (k4 := 4) rfl rfl (by omega) hL da_712 (by decide) ?_
  refine law_a 4 hx hb hX hbl S.2.2.2 hl (k0 := 0) (k4 := 4) rfl rfl (by omega) hL da_718 (by decide) ?_
  refine lv_aload_n hx hb dw_724 rfl (lv_at hl 3 rfl) ?_
  refine law_h (av := [.ref (q 0), .int (xs (i + 1)), .int (xs (i + 2)), .int (xs (i + 3)), .int (xs (i + 4)), .ref qo]) lw_147 hx hb hml C S (c_L_open l hfl D dA q qo (xs (i + 1)) (xs (i + 2)) (xs (i + 3)) (xs (i + 4)) w w' o res e1 (fun k hk => by have h9 := hA.1 k hk; simp at h9; exact h9)) rfl hl.1 rfl (by decide) dw_725 ⟨(Nat.le_of_ble_eq_true rfl), (Nat.le_of_ble_eq_true rfl)⟩ hf (fun H locs S => ?_)
  refine lv_istore (lv' := [(5, .int (cdX [0, 1, 2] res)), (0, .ref bb), (1, .ref (q 0)), (2, .ref (qm 0)), (3, .ref qo), (4, .int (nI i))]) hx hb dw_728 hl (by decide) rfl (fun ls hl => ?_)
  refine lv_aload_n hx hb dw_730 rfl (lv_at hl 3 rfl) ?_
  refine law_a 1 hx hb hX hbl S.2.2.2 hl (k0 := 1) (k4 := 5) rfl rfl (by omega) hL da_731 (by decide) ?_
  refine law_a 2 hx hb hX hbl S.2.2.2 hl (k0 := 1) (k4 := 5) rfl rfl (by omega) hL da_737 (by decide) ?_
  refine law_a 3 hx hb hX hbl S.2.2.2 hl (k0 := 1) (k4 := 5) rfl rfl (by omega) hL da_743 (by decide) ?_
  refine law_a 4 hx hb hX hbl S.2.2.2 hl (k0 := 1) (k4 := 5) rfl rfl (by omega) hL da_749 (by decide) ?_
  refine law_m (rm := RM_m_open) (As := [.int (xs (i + 1)), .int (xs (i + 2)), .int (xs (i + 3)), .int (xs (i + 4))]) lm_149 hx hb hml C S (c_m_open l D dA qm (xs (i + 1)) (xs (i + 2)) (xs (i + 3)) (xs (i + 4)) u u' z e2) rfl rfl ⟨(Nat.le_of_ble_eq_true rfl), (Nat.le_of_ble_eq_true rfl)⟩ rfl hl.1 rfl (by decide) dw_755 ⟨by omega, by omega⟩ (fun H locs S => ?_)
  refine lv_istore (lv' := [(6, .int z), (5, .int (cdX [0, 1, 2] res)), (0, .ref bb), (1, .ref (q 0)), (2, .ref (qm 0)), (3, .ref qo), (4, .int (nI i))]) hx hb dw_758 hl (by decide) rfl (fun ls hl => ?_)
  exact law_t dt_760 (by decide) hx hb hml C S hl hA.2.1 (hA.o (by decide) o) ⟨(Nat.le_of_ble_eq_true rfl), (Nat.le_of_ble_eq_true rfl)⟩ ⟨by omega, by omega⟩ (fun H locs S => kk w' u' _ H locs ls hI' S (lv_sub hl [2, 3, 4, 5, 6] rfl))
set_option maxHeartbeats 4000000 in
set_option maxRecDepth 20000 in
theorem case_11 (X : LX p s m meth c bb L xs l D dA q qm qo) (hI : Inv t w u) (ht : t ≤ 600) (S : LSt D dA q qm qo s.heap w u o H locs) (hi : i + 4 < L) (hl : lv_has ls 7 [(0, .ref bb), (1, .ref (q 0)), (2, .ref (qm 0)), (3, .ref qo), (4, .int (nI i))]) (hf : cells + 4 ≤ room_1.cells ∧ slots + 24 ≤ room_1.slots) (kk : NX p l e s m below meth c bb D dA q qm qo t i cells slots) : W p l e room_1 s m #[Value.ref bb] below meth c H locs cells slots (lw_Z below #[Value.ref bb] s) (F0 m 791 ls []) := by
  obtain ⟨⟨hx, hb, hr, hml, hown, hts, hX, hbl, hlocks, hgv⟩, hfl, hL, C⟩ := X
  obtain ⟨res, w', z, u', e1, e2, hI', hA⟩ := q_close hI (xs (i + 1))
  refine lv_aload_n hx hb dw_791 rfl (lv_at hl 1 rfl) ?_
  refine law_a 1 hx hb hX hbl S.2.2.2 hl (k0 := 0) (k4 := 4) rfl rfl (by omega) hL da_792 (by decide) ?_
  refine lv_aload_n hx hb dw_798 rfl (lv_at hl 3 rfl) ?_
  refine law_h (av := [.ref (q 0), .int (xs (i + 1)), .ref qo]) lw_150 hx hb hml C S (c_L_close l hfl D dA q qo (xs (i + 1)) w w' o res e1 (fun k hk => by have h9 := hA.1 k hk; simp at h9; exact h9)) rfl hl.1 rfl (by decide) dw_799 ⟨(Nat.le_of_ble_eq_true rfl), (Nat.le_of_ble_eq_true rfl)⟩ hf (fun H locs S => ?_)
  refine lv_istore (lv' := [(5, .int (cdX [0, 2] res)), (0, .ref bb), (1, .ref (q 0)), (2, .ref (qm 0)), (3, .ref qo), (4, .int (nI i))]) hx hb dw_802 hl (by decide) rfl (fun ls hl => ?_)
  refine lv_aload_n hx hb dw_804 rfl (lv_at hl 3 rfl) ?_
  refine law_a 1 hx hb hX hbl S.2.2.2 hl (k0 := 1) (k4 := 5) rfl rfl (by omega) hL da_805 (by decide) ?_
  refine law_m (rm := RM_m_close) (As := [.int (xs (i + 1))]) lm_152 hx hb hml C S (c_m_close l D dA qm (xs (i + 1)) u u' z e2) rfl rfl ⟨(Nat.le_of_ble_eq_true rfl), (Nat.le_of_ble_eq_true rfl)⟩ rfl hl.1 rfl (by decide) dw_811 ⟨by omega, by omega⟩ (fun H locs S => ?_)
  refine lv_istore (lv' := [(6, .int z), (5, .int (cdX [0, 2] res)), (0, .ref bb), (1, .ref (q 0)), (2, .ref (qm 0)), (3, .ref qo), (4, .int (nI i))]) hx hb dw_814 hl (by decide) rfl (fun ls hl => ?_)
  exact law_t dt_816 (by decide) hx hb hml C S hl hA.2.1 (hA.o (by decide) o) ⟨(Nat.le_of_ble_eq_true rfl), (Nat.le_of_ble_eq_true rfl)⟩ ⟨by omega, by omega⟩ (fun H locs S => kk w' u' _ H locs ls hI' S (lv_sub hl [2, 3, 4, 5, 6] rfl))
end CASES1

/-! THE LAW'S CASES, on -/
theorem lw_153 : lkW 153 yL_mark cL_mark 4 [(0, 9, 12, 13), (0, 9, 15, 17)] 3 := ⟨wall_of 805 (by decide +kernel) rfl, wall_of 806 (by decide +kernel) rfl, wall_of 0 (by decide +kernel) rfl, wall_of 807 (by decide +kernel) rfl, ⟨by decide, by decide⟩, by decide +kernel⟩
theorem lm_155 : lkV RL 155 RX10 yX10_mark cX10_mark 4 (some .int) 1 := ⟨wall_of 1256 (by decide +kernel) rfl, wall_of 1257 (by decide +kernel) rfl, wall_of 1258 (by decide +kernel) rfl, wall_of 11 (by decide +kernel) rfl, wall_of 1259 (by decide +kernel) rfl, ⟨by decide, by decide⟩, by decide +kernel⟩
theorem lw_156 : lkW 156 yL_cast cL_cast 5 [(0, 10, 13, 13), (0, 10, 17, 17)] 4 := ⟨wall_of 822 (by decide +kernel) rfl, wall_of 823 (by decide +kernel) rfl, wall_of 0 (by decide +kernel) rfl, wall_of 824 (by decide +kernel) rfl, ⟨by decide, by decide⟩, by decide +kernel⟩
theorem lm_159 : lkV RL 159 RX10 yX10_cast cX10_cast 6 (some .int) 2 := ⟨wall_of 1260 (by decide +kernel) rfl, wall_of 1261 (by decide +kernel) rfl, wall_of 1262 (by decide +kernel) rfl, wall_of 11 (by decide +kernel) rfl, wall_of 1263 (by decide +kernel) rfl, ⟨by decide, by decide⟩, by decide +kernel⟩
theorem lw_160 : lkW 160 yL_why cL_why 4 [(0, 9, 12, 13)] 3 := ⟨wall_of 840 (by decide +kernel) rfl, wall_of 841 (by decide +kernel) rfl, wall_of 0 (by decide +kernel) rfl, wall_of 842 (by decide +kernel) rfl, ⟨by decide, by decide⟩, by decide +kernel⟩
theorem lm_162 : lkV RL 162 RX10 yX10_why cX10_why 2 (some .int) 1 := ⟨wall_of 1264 (by decide +kernel) rfl, wall_of 1265 (by decide +kernel) rfl, wall_of 1266 (by decide +kernel) rfl, wall_of 11 (by decide +kernel) rfl, wall_of 1267 (by decide +kernel) rfl, ⟨by decide, by decide⟩, by decide +kernel⟩
theorem lw_163 : lkW 163 yL_read cL_read 5 [(0, 10, 13, 13)] 4 := ⟨wall_of 853 (by decide +kernel) rfl, wall_of 854 (by decide +kernel) rfl, wall_of 0 (by decide +kernel) rfl, wall_of 855 (by decide +kernel) rfl, ⟨by decide, by decide⟩, by decide +kernel⟩
theorem lm_165 : lkV RL 165 RX10 yX10_read cX10_read 3 (some .int) 2 := ⟨wall_of 1268 (by decide +kernel) rfl, wall_of 1269 (by decide +kernel) rfl, wall_of 1270 (by decide +kernel) rfl, wall_of 11 (by decide +kernel) rfl, wall_of 1271 (by decide +kernel) rfl, ⟨by decide, by decide⟩, by decide +kernel⟩
theorem lw_166 : lkW 166 yL_misread cL_misread 3 [(0, 5, 8, 13), (0, 5, 11, 17)] 2 := ⟨wall_of 862 (by decide +kernel) rfl, wall_of 863 (by decide +kernel) rfl, wall_of 0 (by decide +kernel) rfl, wall_of 864 (by decide +kernel) rfl, ⟨by decide, by decide⟩, by decide +kernel⟩
theorem lm_169 : lkV RL 169 RX10 yX10_misread cX10_misread 3 none 1 := ⟨wall_of 1272 (by decide +kernel) rfl, wall_of 1273 (by decide +kernel) rfl, wall_of 1274 (by decide +kernel) rfl, wall_of 11 (by decide +kernel) rfl, wall_of 1275 (by decide +kernel) rfl, ⟨by decide, by decide⟩, by decide +kernel⟩
theorem lw_170 : lkW 170 yL_sample cL_sample 6 [(0, 12, 15, 13), (0, 12, 19, 15), (0, 12, 23, 17)] 5 := ⟨wall_of 870 (by decide +kernel) rfl, wall_of 871 (by decide +kernel) rfl, wall_of 0 (by decide +kernel) rfl, wall_of 872 (by decide +kernel) rfl, ⟨by decide, by decide⟩, by decide +kernel⟩
theorem lm_172 : lkV RL 172 RX10 yX10_sample cX10_sample 11 (some .int) 3 := ⟨wall_of 1276 (by decide +kernel) rfl, wall_of 1277 (by decide +kernel) rfl, wall_of 1278 (by decide +kernel) rfl, wall_of 11 (by decide +kernel) rfl, wall_of 1279 (by decide +kernel) rfl, ⟨by decide, by decide⟩, by decide +kernel⟩
theorem da_848 : decode code 848 = .ok (.aload_n 0, 1) ∧ decode code (848 + 1) = .ok (.iload 4, 2) ∧ decode code (848 + 3) = .ok (.iconst 1, 1) ∧ decode code (848 + 4) = .ok (.iadd, 1) ∧ decode code (848 + 5) = .ok (.iaload, 1) := by decide +kernel
theorem dw_847 : decode code 847 = .ok (.aload_n 1, 1) := by decide +kernel
theorem dw_854 : decode code 854 = .ok (.aload_n 3, 1) := by decide +kernel
theorem dw_855 : decode code 855 = .ok (.invokestatic 153, 3) := by decide +kernel
theorem dw_858 : decode code 858 = .ok (.istore 5, 2) := by decide +kernel
theorem dw_860 : decode code 860 = .ok (.aload_n 2, 1) := by decide +kernel
theorem da_861 : decode code 861 = .ok (.aload_n 0, 1) ∧ decode code (861 + 1) = .ok (.iload 4, 2) ∧ decode code (861 + 3) = .ok (.iconst 1, 1) ∧ decode code (861 + 4) = .ok (.iadd, 1) ∧ decode code (861 + 5) = .ok (.iaload, 1) := by decide +kernel
theorem dw_867 : decode code 867 = .ok (.invokevirtual 155, 3) := by decide +kernel
theorem dw_870 : decode code 870 = .ok (.istore 6, 2) := by decide +kernel
theorem dt_872 : TL 872 920 := ⟨by decide +kernel, by decide +kernel, by decide +kernel, by decide +kernel, by decide +kernel, by decide +kernel, by decide +kernel, by decide +kernel, by decide +kernel, by decide +kernel, by decide +kernel, by decide +kernel, by decide +kernel, by decide +kernel⟩
theorem da_904 : decode code 904 = .ok (.aload_n 0, 1) ∧ decode code (904 + 1) = .ok (.iload 4, 2) ∧ decode code (904 + 3) = .ok (.iconst 1, 1) ∧ decode code (904 + 4) = .ok (.iadd, 1) ∧ decode code (904 + 5) = .ok (.iaload, 1) := by decide +kernel
theorem da_910 : decode code 910 = .ok (.aload_n 0, 1) ∧ decode code (910 + 1) = .ok (.iload 4, 2) ∧ decode code (910 + 3) = .ok (.iconst 2, 1) ∧ decode code (910 + 4) = .ok (.iadd, 1) ∧ decode code (910 + 5) = .ok (.iaload, 1) := by decide +kernel
theorem dw_903 : decode code 903 = .ok (.aload_n 1, 1) := by decide +kernel
theorem dw_916 : decode code 916 = .ok (.aload_n 3, 1) := by decide +kernel
theorem dw_917 : decode code 917 = .ok (.invokestatic 156, 3) := by decide +kernel
theorem dw_920 : decode code 920 = .ok (.istore 5, 2) := by decide +kernel
theorem dw_922 : decode code 922 = .ok (.aload_n 2, 1) := by decide +kernel
theorem da_923 : decode code 923 = .ok (.aload_n 0, 1) ∧ decode code (923 + 1) = .ok (.iload 4, 2) ∧ decode code (923 + 3) = .ok (.iconst 1, 1) ∧ decode code (923 + 4) = .ok (.iadd, 1) ∧ decode code (923 + 5) = .ok (.iaload, 1) := by decide +kernel
theorem da_929 : decode code 929 = .ok (.aload_n 0, 1) ∧ decode code (929 + 1) = .ok (.iload 4, 2) ∧ decode code (929 + 3) = .ok (.iconst 2, 1) ∧ decode code (929 + 4) = .ok (.iadd, 1) ∧ decode code (929 + 5) = .ok (.iaload, 1) := by decide +kernel
theorem dw_935 : decode code 935 = .ok (.invokevirtual 159, 3) := by decide +kernel
theorem dw_938 : decode code 938 = .ok (.istore 6, 2) := by decide +kernel
theorem dt_940 : TL 940 852 := ⟨by decide +kernel, by decide +kernel, by decide +kernel, by decide +kernel, by decide +kernel, by decide +kernel, by decide +kernel, by decide +kernel, by decide +kernel, by decide +kernel, by decide +kernel, by decide +kernel, by decide +kernel, by decide +kernel⟩
theorem da_972 : decode code 972 = .ok (.aload_n 0, 1) ∧ decode code (972 + 1) = .ok (.iload 4, 2) ∧ decode code (972 + 3) = .ok (.iconst 1, 1) ∧ decode code (972 + 4) = .ok (.iadd, 1) ∧ decode code (972 + 5) = .ok (.iaload, 1) := by decide +kernel
theorem dw_971 : decode code 971 = .ok (.aload_n 1, 1) := by decide +kernel
theorem dw_978 : decode code 978 = .ok (.aload_n 3, 1) := by decide +kernel
theorem dw_979 : decode code 979 = .ok (.invokestatic 160, 3) := by decide +kernel
theorem dw_982 : decode code 982 = .ok (.istore 5, 2) := by decide +kernel
theorem dw_984 : decode code 984 = .ok (.aload_n 2, 1) := by decide +kernel
theorem da_985 : decode code 985 = .ok (.aload_n 0, 1) ∧ decode code (985 + 1) = .ok (.iload 4, 2) ∧ decode code (985 + 3) = .ok (.iconst 1, 1) ∧ decode code (985 + 4) = .ok (.iadd, 1) ∧ decode code (985 + 5) = .ok (.iaload, 1) := by decide +kernel
theorem dw_991 : decode code 991 = .ok (.invokevirtual 162, 3) := by decide +kernel
theorem dw_994 : decode code 994 = .ok (.istore 6, 2) := by decide +kernel
theorem dt_996 : TL 996 796 := ⟨by decide +kernel, by decide +kernel, by decide +kernel, by decide +kernel, by decide +kernel, by decide +kernel, by decide +kernel, by decide +kernel, by decide +kernel, by decide +kernel, by decide +kernel, by decide +kernel, by decide +kernel, by decide +kernel⟩
theorem da_1028 : decode code 1028 = .ok (.aload_n 0, 1) ∧ decode code (1028 + 1) = .ok (.iload 4, 2) ∧ decode code (1028 + 3) = .ok (.iconst 1, 1) ∧ decode code (1028 + 4) = .ok (.iadd, 1) ∧ decode code (1028 + 5) = .ok (.iaload, 1) := by decide +kernel
theorem da_1034 : decode code 1034 = .ok (.aload_n 0, 1) ∧ decode code (1034 + 1) = .ok (.iload 4, 2) ∧ decode code (1034 + 3) = .ok (.iconst 2, 1) ∧ decode code (1034 + 4) = .ok (.iadd, 1) ∧ decode code (1034 + 5) = .ok (.iaload, 1) := by decide +kernel
theorem dw_1027 : decode code 1027 = .ok (.aload_n 1, 1) := by decide +kernel
theorem dw_1040 : decode code 1040 = .ok (.aload_n 3, 1) := by decide +kernel
theorem dw_1041 : decode code 1041 = .ok (.invokestatic 163, 3) := by decide +kernel
theorem dw_1044 : decode code 1044 = .ok (.istore 5, 2) := by decide +kernel
theorem dw_1046 : decode code 1046 = .ok (.aload_n 2, 1) := by decide +kernel
theorem da_1047 : decode code 1047 = .ok (.aload_n 0, 1) ∧ decode code (1047 + 1) = .ok (.iload 4, 2) ∧ decode code (1047 + 3) = .ok (.iconst 1, 1) ∧ decode code (1047 + 4) = .ok (.iadd, 1) ∧ decode code (1047 + 5) = .ok (.iaload, 1) := by decide +kernel
theorem da_1053 : decode code 1053 = .ok (.aload_n 0, 1) ∧ decode code (1053 + 1) = .ok (.iload 4, 2) ∧ decode code (1053 + 3) = .ok (.iconst 2, 1) ∧ decode code (1053 + 4) = .ok (.iadd, 1) ∧ decode code (1053 + 5) = .ok (.iaload, 1) := by decide +kernel
theorem dw_1059 : decode code 1059 = .ok (.invokevirtual 165, 3) := by decide +kernel
theorem dw_1062 : decode code 1062 = .ok (.istore 6, 2) := by decide +kernel
theorem dt_1064 : TL 1064 728 := ⟨by decide +kernel, by decide +kernel, by decide +kernel, by decide +kernel, by decide +kernel, by decide +kernel, by decide +kernel, by decide +kernel, by decide +kernel, by decide +kernel, by decide +kernel, by decide +kernel, by decide +kernel, by decide +kernel⟩
theorem da_1096 : decode code 1096 = .ok (.aload_n 0, 1) ∧ decode code (1096 + 1) = .ok (.iload 4, 2) ∧ decode code (1096 + 3) = .ok (.iconst 1, 1) ∧ decode code (1096 + 4) = .ok (.iadd, 1) ∧ decode code (1096 + 5) = .ok (.iaload, 1) := by decide +kernel
theorem dw_1095 : decode code 1095 = .ok (.aload_n 1, 1) := by decide +kernel
theorem dw_1102 : decode code 1102 = .ok (.invokestatic 166, 3) := by decide +kernel
theorem dw_1105 : decode code 1105 = .ok (.istore 5, 2) := by decide +kernel
theorem dw_1107 : decode code 1107 = .ok (.aload_n 2, 1) := by decide +kernel
theorem da_1108 : decode code 1108 = .ok (.aload_n 0, 1) ∧ decode code (1108 + 1) = .ok (.iload 4, 2) ∧ decode code (1108 + 3) = .ok (.iconst 1, 1) ∧ decode code (1108 + 4) = .ok (.iadd, 1) ∧ decode code (1108 + 5) = .ok (.iaload, 1) := by decide +kernel
theorem dw_1114 : decode code 1114 = .ok (.invokevirtual 169, 3) := by decide +kernel
theorem dw_1117 : decode code 1117 = .ok (.aload_n 2, 1) := by decide +kernel
theorem dw_1118 : decode code 1118 = .ok (.invokevirtual 111, 3) := by decide +kernel
theorem dw_1121 : decode code 1121 = .ok (.iload 5, 2) := by decide +kernel
theorem dw_1123 : decode code 1123 = .ok (.if_icmp .eq 5, 3) := by decide +kernel
theorem dw_1128 : decode code 1128 = .ok (.goto 692, 3) := by decide +kernel
theorem da_1132 : decode code 1132 = .ok (.aload_n 0, 1) ∧ decode code (1132 + 1) = .ok (.iload 4, 2) ∧ decode code (1132 + 3) = .ok (.iconst 1, 1) ∧ decode code (1132 + 4) = .ok (.iadd, 1) ∧ decode code (1132 + 5) = .ok (.iaload, 1) := by decide +kernel
theorem da_1138 : decode code 1138 = .ok (.aload_n 0, 1) ∧ decode code (1138 + 1) = .ok (.iload 4, 2) ∧ decode code (1138 + 3) = .ok (.iconst 2, 1) ∧ decode code (1138 + 4) = .ok (.iadd, 1) ∧ decode code (1138 + 5) = .ok (.iaload, 1) := by decide +kernel
theorem da_1144 : decode code 1144 = .ok (.aload_n 0, 1) ∧ decode code (1144 + 1) = .ok (.iload 4, 2) ∧ decode code (1144 + 3) = .ok (.iconst 3, 1) ∧ decode code (1144 + 4) = .ok (.iadd, 1) ∧ decode code (1144 + 5) = .ok (.iaload, 1) := by decide +kernel
theorem dw_1131 : decode code 1131 = .ok (.aload_n 1, 1) := by decide +kernel
theorem dw_1150 : decode code 1150 = .ok (.aload_n 3, 1) := by decide +kernel
theorem dw_1151 : decode code 1151 = .ok (.invokestatic 170, 3) := by decide +kernel
theorem dw_1154 : decode code 1154 = .ok (.istore 5, 2) := by decide +kernel
theorem dw_1156 : decode code 1156 = .ok (.aload_n 2, 1) := by decide +kernel
theorem da_1157 : decode code 1157 = .ok (.aload_n 0, 1) ∧ decode code (1157 + 1) = .ok (.iload 4, 2) ∧ decode code (1157 + 3) = .ok (.iconst 1, 1) ∧ decode code (1157 + 4) = .ok (.iadd, 1) ∧ decode code (1157 + 5) = .ok (.iaload, 1) := by decide +kernel
theorem da_1163 : decode code 1163 = .ok (.aload_n 0, 1) ∧ decode code (1163 + 1) = .ok (.iload 4, 2) ∧ decode code (1163 + 3) = .ok (.iconst 2, 1) ∧ decode code (1163 + 4) = .ok (.iadd, 1) ∧ decode code (1163 + 5) = .ok (.iaload, 1) := by decide +kernel
theorem da_1169 : decode code 1169 = .ok (.aload_n 0, 1) ∧ decode code (1169 + 1) = .ok (.iload 4, 2) ∧ decode code (1169 + 3) = .ok (.iconst 3, 1) ∧ decode code (1169 + 4) = .ok (.iadd, 1) ∧ decode code (1169 + 5) = .ok (.iaload, 1) := by decide +kernel
theorem dw_1175 : decode code 1175 = .ok (.invokevirtual 172, 3) := by decide +kernel
theorem dw_1178 : decode code 1178 = .ok (.istore 6, 2) := by decide +kernel
theorem dt_1180 : TL 1180 612 := ⟨by decide +kernel, by decide +kernel, by decide +kernel, by decide +kernel, by decide +kernel, by decide +kernel, by decide +kernel, by decide +kernel, by decide +kernel, by decide +kernel, by decide +kernel, by decide +kernel, by decide +kernel, by decide +kernel⟩
section CASES2
variable {p : Program} {l : Launch} {e : Env} {s : State} {m : MethodId} {below : List Frame} {meth : Method} {c : Code} {bb L : Nat} {xs : Nat → Int32} {D : va_G} {dA : Nat → ClassId} {q qm : Nat → Nat} {qo : Nat} {t i : Nat} {w u : Wt} {o : Int64} {H : Heap} {locs : List Loc} {cells slots : Nat} {ls : Array Slot}
set_option maxHeartbeats 4000000 in
set_option maxRecDepth 20000 in
theorem case_12 (X : LX p s m meth c bb L xs l D dA q qm qo) (hI : Inv t w u) (ht : t ≤ 600) (S : LSt D dA q qm qo s.heap w u o H locs) (hi : i + 4 < L) (hl : lv_has ls 7 [(0, .ref bb), (1, .ref (q 0)), (2, .ref (qm 0)), (3, .ref qo), (4, .int (nI i))]) (hf : cells + 4 ≤ room_1.cells ∧ slots + 24 ≤ room_1.slots) (kk : NX p l e s m below meth c bb D dA q qm qo t i cells slots) : W p l e room_1 s m #[Value.ref bb] below meth c H locs cells slots (lw_Z below #[Value.ref bb] s) (F0 m 847 ls []) := by
  obtain ⟨⟨hx, hb, hr, hml, hown, hts, hX, hbl, hlocks, hgv⟩, hfl, hL, C⟩ := X
  obtain ⟨res, w', z, u', e1, e2, hI', hA⟩ := q_mark hI (xs (i + 1))
  refine lv_aload_n hx hb dw_847 rfl (lv_at hl 1 rfl) ?_
  refine law_a 1 hx hb hX hbl S.2.2.2 hl (k0 := 0) (k4 := 4) rfl rfl (by omega) hL da_848 (by decide) ?_
  refine lv_aload_n hx hb dw_854 rfl (lv_at hl 3 rfl) ?_
  refine law_h (av := [.ref (q 0), .int (xs (i + 1)), .ref qo]) lw_153 hx hb hml C S (c_L_mark l hfl D dA q qo (xs (i + 1)) w w' o res e1 (fun k hk => by have h9 := hA.1 k hk; simp at h9; exact h9)) rfl hl.1 rfl (by decide) dw_855 ⟨(Nat.le_of_ble_eq_true rfl), (Nat.le_of_ble_eq_true rfl)⟩ hf (fun H locs S => ?_)
  refine lv_istore (lv' := [(5, .int (cdX [0, 2] res)), (0, .ref bb), (1, .ref (q 0)), (2, .ref (qm 0)), (3, .ref qo), (4, .int (nI i))]) hx hb dw_858 hl (by decide) rfl (fun ls hl => ?_)
  refine lv_aload_n hx hb dw_860 rfl (lv_at hl 3 rfl) ?_
  refine law_a 1 hx hb hX hbl S.2.2.2 hl (k0 := 1) (k4 := 5) rfl rfl (by omega) hL da_861 (by decide) ?_
  refine law_m (rm := RM_m_mark) (As := [.int (xs (i + 1))]) lm_155 hx hb hml C S (c_m_mark l D dA qm (xs (i + 1)) u u' z e2) rfl rfl ⟨(Nat.le_of_ble_eq_true rfl), (Nat.le_of_ble_eq_true rfl)⟩ rfl hl.1 rfl (by decide) dw_867 ⟨by omega, by omega⟩ (fun H locs S => ?_)
  refine lv_istore (lv' := [(6, .int z), (5, .int (cdX [0, 2] res)), (0, .ref bb), (1, .ref (q 0)), (2, .ref (qm 0)), (3, .ref qo), (4, .int (nI i))]) hx hb dw_870 hl (by decide) rfl (fun ls hl => ?_)
  exact law_t dt_872 (by decide) hx hb hml C S hl hA.2.1 (hA.o (by decide) o) ⟨(Nat.le_of_ble_eq_true rfl), (Nat.le_of_ble_eq_true rfl)⟩ ⟨by omega, by omega⟩ (fun H locs S => kk w' u' _ H locs ls hI' S (lv_sub hl [2, 3, 4, 5, 6] rfl))
set_option maxHeartbeats 4000000 in
set_option maxRecDepth 20000 in
theorem case_13 (X : LX p s m meth c bb L xs l D dA q qm qo) (hI : Inv t w u) (ht : t ≤ 600) (S : LSt D dA q qm qo s.heap w u o H locs) (hi : i + 4 < L) (hl : lv_has ls 7 [(0, .ref bb), (1, .ref (q 0)), (2, .ref (qm 0)), (3, .ref qo), (4, .int (nI i))]) (hf : cells + 4 ≤ room_1.cells ∧ slots + 24 ≤ room_1.slots) (kk : NX p l e s m below meth c bb D dA q qm qo t i cells slots) : W p l e room_1 s m #[Value.ref bb] below meth c H locs cells slots (lw_Z below #[Value.ref bb] s) (F0 m 903 ls []) := by
  obtain ⟨⟨hx, hb, hr, hml, hown, hts, hX, hbl, hlocks, hgv⟩, hfl, hL, C⟩ := X
  obtain ⟨res, w', z, u', e1, e2, hI', hA⟩ := q_cast hI (xs (i + 1)) (xs (i + 2))
  refine lv_aload_n hx hb dw_903 rfl (lv_at hl 1 rfl) ?_
  refine law_a 1 hx hb hX hbl S.2.2.2 hl (k0 := 0) (k4 := 4) rfl rfl (by omega) hL da_904 (by decide) ?_
  refine law_a 2 hx hb hX hbl S.2.2.2 hl (k0 := 0) (k4 := 4) rfl rfl (by omega) hL da_910 (by decide) ?_
  refine lv_aload_n hx hb dw_916 rfl (lv_at hl 3 rfl) ?_
  refine law_h (av := [.ref (q 0), .int (xs (i + 1)), .int (xs (i + 2)), .ref qo]) lw_156 hx hb hml C S (c_L_cast l hfl D dA q qo (xs (i + 1)) (xs (i + 2)) w w' o res e1 (fun k hk => by have h9 := hA.1 k hk; simp at h9; exact h9)) rfl hl.1 rfl (by decide) dw_917 ⟨(Nat.le_of_ble_eq_true rfl), (Nat.le_of_ble_eq_true rfl)⟩ hf (fun H locs S => ?_)
  refine lv_istore (lv' := [(5, .int (cdX [0, 2] res)), (0, .ref bb), (1, .ref (q 0)), (2, .ref (qm 0)), (3, .ref qo), (4, .int (nI i))]) hx hb dw_920 hl (by decide) rfl (fun ls hl => ?_)
  refine lv_aload_n hx hb dw_922 rfl (lv_at hl 3 rfl) ?_
  refine law_a 1 hx hb hX hbl S.2.2.2 hl (k0 := 1) (k4 := 5) rfl rfl (by omega) hL da_923 (by decide) ?_
  refine law_a 2 hx hb hX hbl S.2.2.2 hl (k0 := 1) (k4 := 5) rfl rfl (by omega) hL da_929 (by decide) ?_
  refine law_m (rm := RM_m_cast) (As := [.int (xs (i + 1)), .int (xs (i + 2))]) lm_159 hx hb hml C S (c_m_cast l D dA qm (xs (i + 1)) (xs (i + 2)) u u' z e2) rfl rfl ⟨(Nat.le_of_ble_eq_true rfl), (Nat.le_of_ble_eq_true rfl)⟩ rfl hl.1 rfl (by decide) dw_935 ⟨by omega, by omega⟩ (fun H locs S => ?_)
  refine lv_istore (lv' := [(6, .int z), (5, .int (cdX [0, 2] res)), (0, .ref bb), (1, .ref (q 0)), (2, .ref (qm 0)), (3, .ref qo), (4, .int (nI i))]) hx hb dw_938 hl (by decide) rfl (fun ls hl => ?_)
  exact law_t dt_940 (by decide) hx hb hml C S hl hA.2.1 (hA.o (by decide) o) ⟨(Nat.le_of_ble_eq_true rfl), (Nat.le_of_ble_eq_true rfl)⟩ ⟨by omega, by omega⟩ (fun H locs S => kk w' u' _ H locs ls hI' S (lv_sub hl [2, 3, 4, 5, 6] rfl))
set_option maxHeartbeats 4000000 in
set_option maxRecDepth 20000 in
theorem case_14 (X : LX p s m meth c bb L xs l D dA q qm qo) (hI : Inv t w u) (ht : t ≤ 600) (S : LSt D dA q qm qo s.heap w u o H locs) (hi : i + 4 < L) (hl : lv_has ls 7 [(0, .ref bb), (1, .ref (q 0)), (2, .ref (qm 0)), (3, .ref qo), (4, .int (nI i))]) (hf : cells + 4 ≤ room_1.cells ∧ slots + 24 ≤ room_1.slots) (kk : NX p l e s m below meth c bb D dA q qm qo t i cells slots) : W p l e room_1 s m #[Value.ref bb] below meth c H locs cells slots (lw_Z below #[Value.ref bb] s) (F0 m 971 ls []) := by
  obtain ⟨⟨hx, hb, hr, hml, hown, hts, hX, hbl, hlocks, hgv⟩, hfl, hL, C⟩ := X
  obtain ⟨res, z, u', e1, e2, hI', hA⟩ := q_why hI (xs (i + 1))
  refine lv_aload_n hx hb dw_971 rfl (lv_at hl 1 rfl) ?_
  refine law_a 1 hx hb hX hbl S.2.2.2 hl (k0 := 0) (k4 := 4) rfl rfl (by omega) hL da_972 (by decide) ?_
  refine lv_aload_n hx hb dw_978 rfl (lv_at hl 3 rfl) ?_
  refine law_h (av := [.ref (q 0), .int (xs (i + 1)), .ref qo]) lw_160 hx hb hml C S (c_L_why l hfl D dA q qo (xs (i + 1)) w o res e1 (fun k hk => by have h9 := hA.1 k hk; simp at h9; exact h9)) rfl hl.1 rfl (by decide) dw_979 ⟨(Nat.le_of_ble_eq_true rfl), (Nat.le_of_ble_eq_true rfl)⟩ hf (fun H locs S => ?_)
  refine lv_istore (lv' := [(5, .int (cdX [0] res)), (0, .ref bb), (1, .ref (q 0)), (2, .ref (qm 0)), (3, .ref qo), (4, .int (nI i))]) hx hb dw_982 hl (by decide) rfl (fun ls hl => ?_)
  refine lv_aload_n hx hb dw_984 rfl (lv_at hl 3 rfl) ?_
  refine law_a 1 hx hb hX hbl S.2.2.2 hl (k0 := 1) (k4 := 5) rfl rfl (by omega) hL da_985 (by decide) ?_
  refine law_m (rm := RM_m_why) (As := [.int (xs (i + 1))]) lm_162 hx hb hml C S (c_m_why l D dA qm (xs (i + 1)) u u' z e2) rfl rfl ⟨(Nat.le_of_ble_eq_true rfl), (Nat.le_of_ble_eq_true rfl)⟩ rfl hl.1 rfl (by decide) dw_991 ⟨by omega, by omega⟩ (fun H locs S => ?_)
  refine lv_istore (lv' := [(6, .int z), (5, .int (cdX [0] res)), (0, .ref bb), (1, .ref (q 0)), (2, .ref (qm 0)), (3, .ref qo), (4, .int (nI i))]) hx hb dw_994 hl (by decide) rfl (fun ls hl => ?_)
  exact law_t dt_996 (by decide) hx hb hml C S hl hA.2.1 (hA.o (by decide) o) ⟨(Nat.le_of_ble_eq_true rfl), (Nat.le_of_ble_eq_true rfl)⟩ ⟨by omega, by omega⟩ (fun H locs S => kk w u' _ H locs ls hI' S (lv_sub hl [2, 3, 4, 5, 6] rfl))
set_option maxHeartbeats 4000000 in
set_option maxRecDepth 20000 in
theorem case_15 (X : LX p s m meth c bb L xs l D dA q qm qo) (hI : Inv t w u) (ht : t ≤ 600) (S : LSt D dA q qm qo s.heap w u o H locs) (hi : i + 4 < L) (hl : lv_has ls 7 [(0, .ref bb), (1, .ref (q 0)), (2, .ref (qm 0)), (3, .ref qo), (4, .int (nI i))]) (hf : cells + 4 ≤ room_1.cells ∧ slots + 24 ≤ room_1.slots) (kk : NX p l e s m below meth c bb D dA q qm qo t i cells slots) : W p l e room_1 s m #[Value.ref bb] below meth c H locs cells slots (lw_Z below #[Value.ref bb] s) (F0 m 1027 ls []) := by
  obtain ⟨⟨hx, hb, hr, hml, hown, hts, hX, hbl, hlocks, hgv⟩, hfl, hL, C⟩ := X
  obtain ⟨res, z, u', e1, e2, hI', hA⟩ := q_read hI (xs (i + 1)) (xs (i + 2))
  refine lv_aload_n hx hb dw_1027 rfl (lv_at hl 1 rfl) ?_
  refine law_a 1 hx hb hX hbl S.2.2.2 hl (k0 := 0) (k4 := 4) rfl rfl (by omega) hL da_1028 (by decide) ?_
  refine law_a 2 hx hb hX hbl S.2.2.2 hl (k0 := 0) (k4 := 4) rfl rfl (by omega) hL da_1034 (by decide) ?_
  refine lv_aload_n hx hb dw_1040 rfl (lv_at hl 3 rfl) ?_
  refine law_h (av := [.ref (q 0), .int (xs (i + 1)), .int (xs (i + 2)), .ref qo]) lw_163 hx hb hml C S (c_L_read l hfl D dA q qo (xs (i + 1)) (xs (i + 2)) w o res e1 (fun k hk => by have h9 := hA.1 k hk; simp at h9; exact h9)) rfl hl.1 rfl (by decide) dw_1041 ⟨(Nat.le_of_ble_eq_true rfl), (Nat.le_of_ble_eq_true rfl)⟩ hf (fun H locs S => ?_)
  refine lv_istore (lv' := [(5, .int (cdX [0] res)), (0, .ref bb), (1, .ref (q 0)), (2, .ref (qm 0)), (3, .ref qo), (4, .int (nI i))]) hx hb dw_1044 hl (by decide) rfl (fun ls hl => ?_)
  refine lv_aload_n hx hb dw_1046 rfl (lv_at hl 3 rfl) ?_
  refine law_a 1 hx hb hX hbl S.2.2.2 hl (k0 := 1) (k4 := 5) rfl rfl (by omega) hL da_1047 (by decide) ?_
  refine law_a 2 hx hb hX hbl S.2.2.2 hl (k0 := 1) (k4 := 5) rfl rfl (by omega) hL da_1053 (by decide) ?_
  refine law_m (rm := RM_m_read) (As := [.int (xs (i + 1)), .int (xs (i + 2))]) lm_165 hx hb hml C S (c_m_read l D dA qm (xs (i + 1)) (xs (i + 2)) u u' z e2) rfl rfl ⟨(Nat.le_of_ble_eq_true rfl), (Nat.le_of_ble_eq_true rfl)⟩ rfl hl.1 rfl (by decide) dw_1059 ⟨by omega, by omega⟩ (fun H locs S => ?_)
  refine lv_istore (lv' := [(6, .int z), (5, .int (cdX [0] res)), (0, .ref bb), (1, .ref (q 0)), (2, .ref (qm 0)), (3, .ref qo), (4, .int (nI i))]) hx hb dw_1062 hl (by decide) rfl (fun ls hl => ?_)
  exact law_t dt_1064 (by decide) hx hb hml C S hl hA.2.1 (hA.o (by decide) o) ⟨(Nat.le_of_ble_eq_true rfl), (Nat.le_of_ble_eq_true rfl)⟩ ⟨by omega, by omega⟩ (fun H locs S => kk w u' _ H locs ls hI' S (lv_sub hl [2, 3, 4, 5, 6] rfl))
set_option maxHeartbeats 4000000 in
set_option maxRecDepth 20000 in
theorem case_16 (X : LX p s m meth c bb L xs l D dA q qm qo) (hI : Inv t w u) (ht : t ≤ 600) (S : LSt D dA q qm qo s.heap w u o H locs) (hi : i + 4 < L) (hl : lv_has ls 7 [(0, .ref bb), (1, .ref (q 0)), (2, .ref (qm 0)), (3, .ref qo), (4, .int (nI i))]) (hf : cells + 4 ≤ room_1.cells ∧ slots + 24 ≤ room_1.slots) (kk : NX p l e s m below meth c bb D dA q qm qo t i cells slots) : W p l e room_1 s m #[Value.ref bb] below meth c H locs cells slots (lw_Z below #[Value.ref bb] s) (F0 m 1095 ls []) := by
  obtain ⟨⟨hx, hb, hr, hml, hown, hts, hX, hbl, hlocks, hgv⟩, hfl, hL, C⟩ := X
  obtain ⟨res, w', u', e1, e2, hI', hA⟩ := q_misread hI (xs (i + 1))
  refine lv_aload_n hx hb dw_1095 rfl (lv_at hl 1 rfl) ?_
  refine law_a 1 hx hb hX hbl S.2.2.2 hl (k0 := 0) (k4 := 4) rfl rfl (by omega) hL da_1096 (by decide) ?_
  refine law_h (av := [.ref (q 0), .int (xs (i + 1))]) lw_166 hx hb hml C S (c_L_misread l hfl D dA q qo (xs (i + 1)) w w' o res e1 (fun k hk => by have h9 := hA.1 k hk; simp at h9; exact h9)) rfl hl.1 rfl (by decide) dw_1102 ⟨(Nat.le_of_ble_eq_true rfl), (Nat.le_of_ble_eq_true rfl)⟩ hf (fun H locs S => ?_)
  refine lv_istore (lv' := [(5, .int (cdX [0, 2] res)), (0, .ref bb), (1, .ref (q 0)), (2, .ref (qm 0)), (3, .ref qo), (4, .int (nI i))]) hx hb dw_1105 hl (by decide) rfl (fun ls hl => ?_)
  refine lv_aload_n hx hb dw_1107 rfl (lv_at hl 3 rfl) ?_
  refine law_a 1 hx hb hX hbl S.2.2.2 hl (k0 := 1) (k4 := 5) rfl rfl (by omega) hL da_1108 (by decide) ?_
  refine law_mv (rm := RM_m_misread) (As := [.int (xs (i + 1))]) lm_169 hx hb hml C S (c_m_misread l D dA qm (xs (i + 1)) u u' e2) rfl rfl ⟨(Nat.le_of_ble_eq_true rfl), (Nat.le_of_ble_eq_true rfl)⟩ rfl hl.1 rfl (by decide) dw_1114 ⟨by omega, by omega⟩ (fun H locs S => ?_)
  refine lv_aload_n hx hb dw_1117 rfl (lv_at hl 3 rfl) ?_
  refine law_m (rm := RM_m_thrown) (As := []) lk_RL_111 hx hb hml C S (c_m_thrown l D dA qm u' (u' 0 45) rfl) rfl rfl ⟨(Nat.le_of_ble_eq_true rfl), (Nat.le_of_ble_eq_true rfl)⟩ rfl hl.1 rfl (by decide) dw_1118 ⟨by omega, by omega⟩ (fun H locs S => ?_)
  refine lv_iload hx hb dw_1121 (lv_at hl 0 rfl) ?_
  refine lv_icmp_eq (tgt := 1128) hx hb dw_1123 (by decide) (fun _ => ?_) (fun g => absurd hA.2.1 g)
  refine lv_goto (tgt := 1820) hx hb dw_1128 (by decide) ?_
  exact kk w' u' _ H locs ls hI' S (lv_sub hl [1, 2, 3, 4, 5] rfl)
set_option maxHeartbeats 4000000 in
set_option maxRecDepth 20000 in
theorem case_17 (X : LX p s m meth c bb L xs l D dA q qm qo) (hI : Inv t w u) (ht : t ≤ 600) (S : LSt D dA q qm qo s.heap w u o H locs) (hi : i + 4 < L) (hl : lv_has ls 7 [(0, .ref bb), (1, .ref (q 0)), (2, .ref (qm 0)), (3, .ref qo), (4, .int (nI i))]) (hf : cells + 4 ≤ room_1.cells ∧ slots + 24 ≤ room_1.slots) (kk : NX p l e s m below meth c bb D dA q qm qo t i cells slots) : W p l e room_1 s m #[Value.ref bb] below meth c H locs cells slots (lw_Z below #[Value.ref bb] s) (F0 m 1131 ls []) := by
  obtain ⟨⟨hx, hb, hr, hml, hown, hts, hX, hbl, hlocks, hgv⟩, hfl, hL, C⟩ := X
  obtain ⟨res, w', z, u', e1, e2, hI', hA⟩ := q_sample hI ht (xs (i + 1)) (xs (i + 2)) (xs (i + 3))
  refine lv_aload_n hx hb dw_1131 rfl (lv_at hl 1 rfl) ?_
  refine law_a 1 hx hb hX hbl S.2.2.2 hl (k0 := 0) (k4 := 4) rfl rfl (by omega) hL da_1132 (by decide) ?_
  refine law_a 2 hx hb hX hbl S.2.2.2 hl (k0 := 0) (k4 := 4) rfl rfl (by omega) hL da_1138 (by decide) ?_
  refine law_a 3 hx hb hX hbl S.2.2.2 hl (k0 := 0) (k4 := 4) rfl rfl (by omega) hL da_1144 (by decide) ?_
  refine lv_aload_n hx hb dw_1150 rfl (lv_at hl 3 rfl) ?_
  refine law_h (av := [.ref (q 0), .int (xs (i + 1)), .int (xs (i + 2)), .int (xs (i + 3)), .ref qo]) lw_170 hx hb hml C S (c_L_sample l hfl D dA q qo (xs (i + 1)) (xs (i + 2)) (xs (i + 3)) w w' o res e1 (fun k hk => by have h9 := hA.1 k hk; simp at h9; exact h9)) rfl hl.1 rfl (by decide) dw_1151 ⟨(Nat.le_of_ble_eq_true rfl), (Nat.le_of_ble_eq_true rfl)⟩ hf (fun H locs S => ?_)
  refine lv_istore (lv' := [(5, .int (cdX [0, 1, 2] res)), (0, .ref bb), (1, .ref (q 0)), (2, .ref (qm 0)), (3, .ref qo), (4, .int (nI i))]) hx hb dw_1154 hl (by decide) rfl (fun ls hl => ?_)
  refine lv_aload_n hx hb dw_1156 rfl (lv_at hl 3 rfl) ?_
  refine law_a 1 hx hb hX hbl S.2.2.2 hl (k0 := 1) (k4 := 5) rfl rfl (by omega) hL da_1157 (by decide) ?_
  refine law_a 2 hx hb hX hbl S.2.2.2 hl (k0 := 1) (k4 := 5) rfl rfl (by omega) hL da_1163 (by decide) ?_
  refine law_a 3 hx hb hX hbl S.2.2.2 hl (k0 := 1) (k4 := 5) rfl rfl (by omega) hL da_1169 (by decide) ?_
  refine law_m (rm := RM_m_sample) (As := [.int (xs (i + 1)), .int (xs (i + 2)), .int (xs (i + 3))]) lm_172 hx hb hml C S (c_m_sample l D dA qm (xs (i + 1)) (xs (i + 2)) (xs (i + 3)) u u' z e2) rfl rfl ⟨(Nat.le_of_ble_eq_true rfl), (Nat.le_of_ble_eq_true rfl)⟩ rfl hl.1 rfl (by decide) dw_1175 ⟨by omega, by omega⟩ (fun H locs S => ?_)
  refine lv_istore (lv' := [(6, .int z), (5, .int (cdX [0, 1, 2] res)), (0, .ref bb), (1, .ref (q 0)), (2, .ref (qm 0)), (3, .ref qo), (4, .int (nI i))]) hx hb dw_1178 hl (by decide) rfl (fun ls hl => ?_)
  exact law_t dt_1180 (by decide) hx hb hml C S hl hA.2.1 (hA.o (by decide) o) ⟨(Nat.le_of_ble_eq_true rfl), (Nat.le_of_ble_eq_true rfl)⟩ ⟨by omega, by omega⟩ (fun H locs S => kk w' u' _ H locs ls hI' S (lv_sub hl [2, 3, 4, 5, 6] rfl))
end CASES2

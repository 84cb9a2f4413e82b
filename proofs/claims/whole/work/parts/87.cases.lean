/-! THE LAW'S CASES, on -/
theorem lw_173 : lkW 173 yL_recount cL_recount 4 [(0, 9, 12, 13)] 3 := ⟨wall_of 884 (by decide +kernel) rfl, wall_of 885 (by decide +kernel) rfl, wall_of 0 (by decide +kernel) rfl, wall_of 886 (by decide +kernel) rfl, ⟨by decide, by decide⟩, by decide +kernel⟩
theorem lm_175 : lkV RL 175 RX10 yX10_recount cX10_recount 4 (some .int) 1 := ⟨wall_of 1285 (by decide +kernel) rfl, wall_of 1286 (by decide +kernel) rfl, wall_of 1287 (by decide +kernel) rfl, wall_of 11 (by decide +kernel) rfl, wall_of 1288 (by decide +kernel) rfl, ⟨by decide, by decide⟩, by decide +kernel⟩
theorem lw_176 : lkW 176 yL_doubt cL_doubt 4 [(0, 9, 12, 13)] 3 := ⟨wall_of 891 (by decide +kernel) rfl, wall_of 892 (by decide +kernel) rfl, wall_of 0 (by decide +kernel) rfl, wall_of 893 (by decide +kernel) rfl, ⟨by decide, by decide⟩, by decide +kernel⟩
theorem lm_178 : lkV RL 178 RX10 yX10_doubt cX10_doubt 2 (some .int) 1 := ⟨wall_of 1289 (by decide +kernel) rfl, wall_of 1290 (by decide +kernel) rfl, wall_of 1291 (by decide +kernel) rfl, wall_of 11 (by decide +kernel) rfl, wall_of 1292 (by decide +kernel) rfl, ⟨by decide, by decide⟩, by decide +kernel⟩
theorem lw_179 : lkW 179 yL_winners cL_winners 4 [(0, 9, 12, 13)] 3 := ⟨wall_of 898 (by decide +kernel) rfl, wall_of 899 (by decide +kernel) rfl, wall_of 0 (by decide +kernel) rfl, wall_of 900 (by decide +kernel) rfl, ⟨by decide, by decide⟩, by decide +kernel⟩
theorem lm_181 : lkV RL 181 RX10 yX10_winners cX10_winners 2 (some .int) 1 := ⟨wall_of 1293 (by decide +kernel) rfl, wall_of 1294 (by decide +kernel) rfl, wall_of 1295 (by decide +kernel) rfl, wall_of 11 (by decide +kernel) rfl, wall_of 1296 (by decide +kernel) rfl, ⟨by decide, by decide⟩, by decide +kernel⟩
theorem lw_182 : lkW 182 yL_winnersByHand cL_winnersByHand 4 [(0, 9, 12, 13)] 3 := ⟨wall_of 905 (by decide +kernel) rfl, wall_of 906 (by decide +kernel) rfl, wall_of 0 (by decide +kernel) rfl, wall_of 907 (by decide +kernel) rfl, ⟨by decide, by decide⟩, by decide +kernel⟩
theorem lm_184 : lkV RL 184 RX10 yX10_winnersByHand cX10_winnersByHand 2 (some .int) 1 := ⟨wall_of 1297 (by decide +kernel) rfl, wall_of 1298 (by decide +kernel) rfl, wall_of 1299 (by decide +kernel) rfl, wall_of 11 (by decide +kernel) rfl, wall_of 1300 (by decide +kernel) rfl, ⟨by decide, by decide⟩, by decide +kernel⟩
theorem lw_185 : lkW 185 yL_tallies cL_tallies 4 [(0, 9, 12, 13)] 3 := ⟨wall_of 923 (by decide +kernel) rfl, wall_of 924 (by decide +kernel) rfl, wall_of 0 (by decide +kernel) rfl, wall_of 925 (by decide +kernel) rfl, ⟨by decide, by decide⟩, by decide +kernel⟩
theorem lm_187 : lkV RL 187 RX10 yX10_tallies cX10_tallies 2 (some .int) 1 := ⟨wall_of 1302 (by decide +kernel) rfl, wall_of 1303 (by decide +kernel) rfl, wall_of 1304 (by decide +kernel) rfl, wall_of 11 (by decide +kernel) rfl, wall_of 1305 (by decide +kernel) rfl, ⟨by decide, by decide⟩, by decide +kernel⟩
theorem lw_188 : lkW 188 yL_votes cL_votes 6 [(0, 12, 15, 13)] 5 := ⟨wall_of 930 (by decide +kernel) rfl, wall_of 931 (by decide +kernel) rfl, wall_of 0 (by decide +kernel) rfl, wall_of 932 (by decide +kernel) rfl, ⟨by decide, by decide⟩, by decide +kernel⟩
theorem lm_190 : lkV RL 190 RX10 yX10_votes cX10_votes 7 (some .int) 3 := ⟨wall_of 1310 (by decide +kernel) rfl, wall_of 1311 (by decide +kernel) rfl, wall_of 1312 (by decide +kernel) rfl, wall_of 11 (by decide +kernel) rfl, wall_of 1313 (by decide +kernel) rfl, ⟨by decide, by decide⟩, by decide +kernel⟩
theorem da_1212 : decode code 1212 = .ok (.aload_n 0, 1) ∧ decode code (1212 + 1) = .ok (.iload 4, 2) ∧ decode code (1212 + 3) = .ok (.iconst 1, 1) ∧ decode code (1212 + 4) = .ok (.iadd, 1) ∧ decode code (1212 + 5) = .ok (.iaload, 1) := by decide +kernel
theorem dw_1211 : decode code 1211 = .ok (.aload_n 1, 1) := by decide +kernel
theorem dw_1218 : decode code 1218 = .ok (.aload_n 3, 1) := by decide +kernel
theorem dw_1219 : decode code 1219 = .ok (.invokestatic 173, 3) := by decide +kernel
theorem dw_1222 : decode code 1222 = .ok (.istore 5, 2) := by decide +kernel
theorem dw_1224 : decode code 1224 = .ok (.aload_n 2, 1) := by decide +kernel
theorem da_1225 : decode code 1225 = .ok (.aload_n 0, 1) ∧ decode code (1225 + 1) = .ok (.iload 4, 2) ∧ decode code (1225 + 3) = .ok (.iconst 1, 1) ∧ decode code (1225 + 4) = .ok (.iadd, 1) ∧ decode code (1225 + 5) = .ok (.iaload, 1) := by decide +kernel
theorem dw_1231 : decode code 1231 = .ok (.invokevirtual 175, 3) := by decide +kernel
theorem dw_1234 : decode code 1234 = .ok (.istore 6, 2) := by decide +kernel
theorem dt_1236 : TL 1236 556 := ⟨by decide +kernel, by decide +kernel, by decide +kernel, by decide +kernel, by decide +kernel, by decide +kernel, by decide +kernel, by decide +kernel, by decide +kernel, by decide +kernel, by decide +kernel, by decide +kernel, by decide +kernel, by decide +kernel⟩
theorem da_1268 : decode code 1268 = .ok (.aload_n 0, 1) ∧ decode code (1268 + 1) = .ok (.iload 4, 2) ∧ decode code (1268 + 3) = .ok (.iconst 1, 1) ∧ decode code (1268 + 4) = .ok (.iadd, 1) ∧ decode code (1268 + 5) = .ok (.iaload, 1) := by decide +kernel
theorem dw_1267 : decode code 1267 = .ok (.aload_n 1, 1) := by decide +kernel
theorem dw_1274 : decode code 1274 = .ok (.aload_n 3, 1) := by decide +kernel
theorem dw_1275 : decode code 1275 = .ok (.invokestatic 176, 3) := by decide +kernel
theorem dw_1278 : decode code 1278 = .ok (.istore 5, 2) := by decide +kernel
theorem dw_1280 : decode code 1280 = .ok (.aload_n 2, 1) := by decide +kernel
theorem da_1281 : decode code 1281 = .ok (.aload_n 0, 1) ∧ decode code (1281 + 1) = .ok (.iload 4, 2) ∧ decode code (1281 + 3) = .ok (.iconst 1, 1) ∧ decode code (1281 + 4) = .ok (.iadd, 1) ∧ decode code (1281 + 5) = .ok (.iaload, 1) := by decide +kernel
theorem dw_1287 : decode code 1287 = .ok (.invokevirtual 178, 3) := by decide +kernel
theorem dw_1290 : decode code 1290 = .ok (.istore 6, 2) := by decide +kernel
theorem dt_1292 : TL 1292 500 := ⟨by decide +kernel, by decide +kernel, by decide +kernel, by decide +kernel, by decide +kernel, by decide +kernel, by decide +kernel, by decide +kernel, by decide +kernel, by decide +kernel, by decide +kernel, by decide +kernel, by decide +kernel, by decide +kernel⟩
theorem da_1324 : decode code 1324 = .ok (.aload_n 0, 1) ∧ decode code (1324 + 1) = .ok (.iload 4, 2) ∧ decode code (1324 + 3) = .ok (.iconst 1, 1) ∧ decode code (1324 + 4) = .ok (.iadd, 1) ∧ decode code (1324 + 5) = .ok (.iaload, 1) := by decide +kernel
theorem dw_1323 : decode code 1323 = .ok (.aload_n 1, 1) := by decide +kernel
theorem dw_1330 : decode code 1330 = .ok (.aload_n 3, 1) := by decide +kernel
theorem dw_1331 : decode code 1331 = .ok (.invokestatic 179, 3) := by decide +kernel
theorem dw_1334 : decode code 1334 = .ok (.istore 5, 2) := by decide +kernel
theorem dw_1336 : decode code 1336 = .ok (.aload_n 2, 1) := by decide +kernel
theorem da_1337 : decode code 1337 = .ok (.aload_n 0, 1) ∧ decode code (1337 + 1) = .ok (.iload 4, 2) ∧ decode code (1337 + 3) = .ok (.iconst 1, 1) ∧ decode code (1337 + 4) = .ok (.iadd, 1) ∧ decode code (1337 + 5) = .ok (.iaload, 1) := by decide +kernel
theorem dw_1343 : decode code 1343 = .ok (.invokevirtual 181, 3) := by decide +kernel
theorem dw_1346 : decode code 1346 = .ok (.istore 6, 2) := by decide +kernel
theorem dt_1348 : TL 1348 444 := ⟨by decide +kernel, by decide +kernel, by decide +kernel, by decide +kernel, by decide +kernel, by decide +kernel, by decide +kernel, by decide +kernel, by decide +kernel, by decide +kernel, by decide +kernel, by decide +kernel, by decide +kernel, by decide +kernel⟩
theorem da_1380 : decode code 1380 = .ok (.aload_n 0, 1) ∧ decode code (1380 + 1) = .ok (.iload 4, 2) ∧ decode code (1380 + 3) = .ok (.iconst 1, 1) ∧ decode code (1380 + 4) = .ok (.iadd, 1) ∧ decode code (1380 + 5) = .ok (.iaload, 1) := by decide +kernel
theorem dw_1379 : decode code 1379 = .ok (.aload_n 1, 1) := by decide +kernel
theorem dw_1386 : decode code 1386 = .ok (.aload_n 3, 1) := by decide +kernel
theorem dw_1387 : decode code 1387 = .ok (.invokestatic 182, 3) := by decide +kernel
theorem dw_1390 : decode code 1390 = .ok (.istore 5, 2) := by decide +kernel
theorem dw_1392 : decode code 1392 = .ok (.aload_n 2, 1) := by decide +kernel
theorem da_1393 : decode code 1393 = .ok (.aload_n 0, 1) ∧ decode code (1393 + 1) = .ok (.iload 4, 2) ∧ decode code (1393 + 3) = .ok (.iconst 1, 1) ∧ decode code (1393 + 4) = .ok (.iadd, 1) ∧ decode code (1393 + 5) = .ok (.iaload, 1) := by decide +kernel
theorem dw_1399 : decode code 1399 = .ok (.invokevirtual 184, 3) := by decide +kernel
theorem dw_1402 : decode code 1402 = .ok (.istore 6, 2) := by decide +kernel
theorem dt_1404 : TL 1404 388 := ⟨by decide +kernel, by decide +kernel, by decide +kernel, by decide +kernel, by decide +kernel, by decide +kernel, by decide +kernel, by decide +kernel, by decide +kernel, by decide +kernel, by decide +kernel, by decide +kernel, by decide +kernel, by decide +kernel⟩
theorem da_1436 : decode code 1436 = .ok (.aload_n 0, 1) ∧ decode code (1436 + 1) = .ok (.iload 4, 2) ∧ decode code (1436 + 3) = .ok (.iconst 1, 1) ∧ decode code (1436 + 4) = .ok (.iadd, 1) ∧ decode code (1436 + 5) = .ok (.iaload, 1) := by decide +kernel
theorem dw_1435 : decode code 1435 = .ok (.aload_n 1, 1) := by decide +kernel
theorem dw_1442 : decode code 1442 = .ok (.aload_n 3, 1) := by decide +kernel
theorem dw_1443 : decode code 1443 = .ok (.invokestatic 185, 3) := by decide +kernel
theorem dw_1446 : decode code 1446 = .ok (.istore 5, 2) := by decide +kernel
theorem dw_1448 : decode code 1448 = .ok (.aload_n 2, 1) := by decide +kernel
theorem da_1449 : decode code 1449 = .ok (.aload_n 0, 1) ∧ decode code (1449 + 1) = .ok (.iload 4, 2) ∧ decode code (1449 + 3) = .ok (.iconst 1, 1) ∧ decode code (1449 + 4) = .ok (.iadd, 1) ∧ decode code (1449 + 5) = .ok (.iaload, 1) := by decide +kernel
theorem dw_1455 : decode code 1455 = .ok (.invokevirtual 187, 3) := by decide +kernel
theorem dw_1458 : decode code 1458 = .ok (.istore 6, 2) := by decide +kernel
theorem dt_1460 : TL 1460 332 := ⟨by decide +kernel, by decide +kernel, by decide +kernel, by decide +kernel, by decide +kernel, by decide +kernel, by decide +kernel, by decide +kernel, by decide +kernel, by decide +kernel, by decide +kernel, by decide +kernel, by decide +kernel, by decide +kernel⟩
theorem da_1492 : decode code 1492 = .ok (.aload_n 0, 1) ∧ decode code (1492 + 1) = .ok (.iload 4, 2) ∧ decode code (1492 + 3) = .ok (.iconst 1, 1) ∧ decode code (1492 + 4) = .ok (.iadd, 1) ∧ decode code (1492 + 5) = .ok (.iaload, 1) := by decide +kernel
theorem da_1498 : decode code 1498 = .ok (.aload_n 0, 1) ∧ decode code (1498 + 1) = .ok (.iload 4, 2) ∧ decode code (1498 + 3) = .ok (.iconst 2, 1) ∧ decode code (1498 + 4) = .ok (.iadd, 1) ∧ decode code (1498 + 5) = .ok (.iaload, 1) := by decide +kernel
theorem da_1504 : decode code 1504 = .ok (.aload_n 0, 1) ∧ decode code (1504 + 1) = .ok (.iload 4, 2) ∧ decode code (1504 + 3) = .ok (.iconst 3, 1) ∧ decode code (1504 + 4) = .ok (.iadd, 1) ∧ decode code (1504 + 5) = .ok (.iaload, 1) := by decide +kernel
theorem dw_1491 : decode code 1491 = .ok (.aload_n 1, 1) := by decide +kernel
theorem dw_1510 : decode code 1510 = .ok (.aload_n 3, 1) := by decide +kernel
theorem dw_1511 : decode code 1511 = .ok (.invokestatic 188, 3) := by decide +kernel
theorem dw_1514 : decode code 1514 = .ok (.istore 5, 2) := by decide +kernel
theorem dw_1516 : decode code 1516 = .ok (.aload_n 2, 1) := by decide +kernel
theorem da_1517 : decode code 1517 = .ok (.aload_n 0, 1) ∧ decode code (1517 + 1) = .ok (.iload 4, 2) ∧ decode code (1517 + 3) = .ok (.iconst 1, 1) ∧ decode code (1517 + 4) = .ok (.iadd, 1) ∧ decode code (1517 + 5) = .ok (.iaload, 1) := by decide +kernel
theorem da_1523 : decode code 1523 = .ok (.aload_n 0, 1) ∧ decode code (1523 + 1) = .ok (.iload 4, 2) ∧ decode code (1523 + 3) = .ok (.iconst 2, 1) ∧ decode code (1523 + 4) = .ok (.iadd, 1) ∧ decode code (1523 + 5) = .ok (.iaload, 1) := by decide +kernel
theorem da_1529 : decode code 1529 = .ok (.aload_n 0, 1) ∧ decode code (1529 + 1) = .ok (.iload 4, 2) ∧ decode code (1529 + 3) = .ok (.iconst 3, 1) ∧ decode code (1529 + 4) = .ok (.iadd, 1) ∧ decode code (1529 + 5) = .ok (.iaload, 1) := by decide +kernel
theorem dw_1535 : decode code 1535 = .ok (.invokevirtual 190, 3) := by decide +kernel
theorem dw_1538 : decode code 1538 = .ok (.istore 6, 2) := by decide +kernel
theorem dt_1540 : TL 1540 252 := ⟨by decide +kernel, by decide +kernel, by decide +kernel, by decide +kernel, by decide +kernel, by decide +kernel, by decide +kernel, by decide +kernel, by decide +kernel, by decide +kernel, by decide +kernel, by decide +kernel, by decide +kernel, by decide +kernel⟩
section CASES3
variable {p : Program} {l : Launch} {e : Env} {s : State} {m : MethodId} {below : List Frame} {meth : Method} {c : Code} {bb L : Nat} {xs : Nat → Int32} {D : va_G} {dA : Nat → ClassId} {q qm : Nat → Nat} {qo : Nat} {t i : Nat} {w u : Wt} {o : Int64} {H : Heap} {locs : List Loc} {cells slots : Nat} {ls : Array Slot}
set_option maxHeartbeats 4000000 in
set_option maxRecDepth 20000 in
theorem case_18 (X : LX p s m meth c bb L xs l D dA q qm qo) (hI : Inv t w u) (ht : t ≤ 600) (S : LSt D dA q qm qo s.heap w u o H locs) (hi : i + 4 < L) (hl : lv_has ls 7 [(0, .ref bb), (1, .ref (q 0)), (2, .ref (qm 0)), (3, .ref qo), (4, .int (nI i))]) (hf : cells + 4 ≤ room_1.cells ∧ slots + 24 ≤ room_1.slots) (kk : NX p l e s m below meth c bb D dA q qm qo t i cells slots) : W p l e room_1 s m #[Value.ref bb] below meth c H locs cells slots (lw_Z below #[Value.ref bb] s) (F0 m 1211 ls []) := by
  obtain ⟨⟨hx, hb, hr, hml, hown, hts, hX, hbl, hlocks, hgv⟩, hfl, hL, C⟩ := X
  obtain ⟨res, w', z, u', e1, e2, hI', hA⟩ := q_recount hI (xs (i + 1))
  refine lv_aload_n hx hb dw_1211 rfl (lv_at hl 1 rfl) ?_
  refine law_a 1 hx hb hX hbl S.2.2.2 hl (k0 := 0) (k4 := 4) rfl rfl (by omega) hL da_1212 (by decide) ?_
  refine lv_aload_n hx hb dw_1218 rfl (lv_at hl 3 rfl) ?_
  refine law_h (av := [.ref (q 0), .int (xs (i + 1)), .ref qo]) lw_173 hx hb hml C S (c_L_recount l hfl D dA q qo (xs (i + 1)) w w' o res e1 (fun k hk => by have h9 := hA.1 k hk; simp at h9; exact h9)) rfl hl.1 rfl (by decide) dw_1219 ⟨(Nat.le_of_ble_eq_true rfl), (Nat.le_of_ble_eq_true rfl)⟩ hf (fun H locs S => ?_)
  refine lv_istore (lv' := [(5, .int (cdX [0] res)), (0, .ref bb), (1, .ref (q 0)), (2, .ref (qm 0)), (3, .ref qo), (4, .int (nI i))]) hx hb dw_1222 hl (by decide) rfl (fun ls hl => ?_)
  refine lv_aload_n hx hb dw_1224 rfl (lv_at hl 3 rfl) ?_
  refine law_a 1 hx hb hX hbl S.2.2.2 hl (k0 := 1) (k4 := 5) rfl rfl (by omega) hL da_1225 (by decide) ?_
  refine law_m (rm := RM_m_recount) (As := [.int (xs (i + 1))]) lm_175 hx hb hml C S (c_m_recount l D dA qm (xs (i + 1)) u u' z e2) rfl rfl ⟨(Nat.le_of_ble_eq_true rfl), (Nat.le_of_ble_eq_true rfl)⟩ rfl hl.1 rfl (by decide) dw_1231 ⟨by omega, by omega⟩ (fun H locs S => ?_)
  refine lv_istore (lv' := [(6, .int z), (5, .int (cdX [0] res)), (0, .ref bb), (1, .ref (q 0)), (2, .ref (qm 0)), (3, .ref qo), (4, .int (nI i))]) hx hb dw_1234 hl (by decide) rfl (fun ls hl => ?_)
  exact law_t dt_1236 (by decide) hx hb hml C S hl hA.2.1 (hA.o (by decide) o) ⟨(Nat.le_of_ble_eq_true rfl), (Nat.le_of_ble_eq_true rfl)⟩ ⟨by omega, by omega⟩ (fun H locs S => kk w' u' _ H locs ls hI' S (lv_sub hl [2, 3, 4, 5, 6] rfl))
set_option maxHeartbeats 4000000 in
set_option maxRecDepth 20000 in
theorem case_19 (X : LX p s m meth c bb L xs l D dA q qm qo) (hI : Inv t w u) (ht : t ≤ 600) (S : LSt D dA q qm qo s.heap w u o H locs) (hi : i + 4 < L) (hl : lv_has ls 7 [(0, .ref bb), (1, .ref (q 0)), (2, .ref (qm 0)), (3, .ref qo), (4, .int (nI i))]) (hf : cells + 4 ≤ room_1.cells ∧ slots + 24 ≤ room_1.slots) (kk : NX p l e s m below meth c bb D dA q qm qo t i cells slots) : W p l e room_1 s m #[Value.ref bb] below meth c H locs cells slots (lw_Z below #[Value.ref bb] s) (F0 m 1267 ls []) := by
  obtain ⟨⟨hx, hb, hr, hml, hown, hts, hX, hbl, hlocks, hgv⟩, hfl, hL, C⟩ := X
  obtain ⟨res, z, u', e1, e2, hI', hA⟩ := q_doubt hI ht (xs (i + 1))
  refine lv_aload_n hx hb dw_1267 rfl (lv_at hl 1 rfl) ?_
  refine law_a 1 hx hb hX hbl S.2.2.2 hl (k0 := 0) (k4 := 4) rfl rfl (by omega) hL da_1268 (by decide) ?_
  refine lv_aload_n hx hb dw_1274 rfl (lv_at hl 3 rfl) ?_
  refine law_h (av := [.ref (q 0), .int (xs (i + 1)), .ref qo]) lw_176 hx hb hml C S (c_L_doubt l hfl D dA q qo (xs (i + 1)) w o res e1 (fun k hk => by have h9 := hA.1 k hk; simp at h9; exact h9)) rfl hl.1 rfl (by decide) dw_1275 ⟨(Nat.le_of_ble_eq_true rfl), (Nat.le_of_ble_eq_true rfl)⟩ hf (fun H locs S => ?_)
  refine lv_istore (lv' := [(5, .int (cdX [0] res)), (0, .ref bb), (1, .ref (q 0)), (2, .ref (qm 0)), (3, .ref qo), (4, .int (nI i))]) hx hb dw_1278 hl (by decide) rfl (fun ls hl => ?_)
  refine lv_aload_n hx hb dw_1280 rfl (lv_at hl 3 rfl) ?_
  refine law_a 1 hx hb hX hbl S.2.2.2 hl (k0 := 1) (k4 := 5) rfl rfl (by omega) hL da_1281 (by decide) ?_
  refine law_m (rm := RM_m_doubt) (As := [.int (xs (i + 1))]) lm_178 hx hb hml C S (c_m_doubt l D dA qm (xs (i + 1)) u u' z e2) rfl rfl ⟨(Nat.le_of_ble_eq_true rfl), (Nat.le_of_ble_eq_true rfl)⟩ rfl hl.1 rfl (by decide) dw_1287 ⟨by omega, by omega⟩ (fun H locs S => ?_)
  refine lv_istore (lv' := [(6, .int z), (5, .int (cdX [0] res)), (0, .ref bb), (1, .ref (q 0)), (2, .ref (qm 0)), (3, .ref qo), (4, .int (nI i))]) hx hb dw_1290 hl (by decide) rfl (fun ls hl => ?_)
  exact law_t dt_1292 (by decide) hx hb hml C S hl hA.2.1 (hA.o (by decide) o) ⟨(Nat.le_of_ble_eq_true rfl), (Nat.le_of_ble_eq_true rfl)⟩ ⟨by omega, by omega⟩ (fun H locs S => kk w u' _ H locs ls hI' S (lv_sub hl [2, 3, 4, 5, 6] rfl))
set_option maxHeartbeats 4000000 in
set_option maxRecDepth 20000 in
theorem case_20 (X : LX p s m meth c bb L xs l D dA q qm qo) (hI : Inv t w u) (ht : t ≤ 600) (S : LSt D dA q qm qo s.heap w u o H locs) (hi : i + 4 < L) (hl : lv_has ls 7 [(0, .ref bb), (1, .ref (q 0)), (2, .ref (qm 0)), (3, .ref qo), (4, .int (nI i))]) (hf : cells + 4 ≤ room_1.cells ∧ slots + 24 ≤ room_1.slots) (kk : NX p l e s m below meth c bb D dA q qm qo t i cells slots) : W p l e room_1 s m #[Value.ref bb] below meth c H locs cells slots (lw_Z below #[Value.ref bb] s) (F0 m 1323 ls []) := by
  obtain ⟨⟨hx, hb, hr, hml, hown, hts, hX, hbl, hlocks, hgv⟩, hfl, hL, C⟩ := X
  obtain ⟨res, w', z, u', e1, e2, hI', hA⟩ := q_winners hI (xs (i + 1))
  refine lv_aload_n hx hb dw_1323 rfl (lv_at hl 1 rfl) ?_
  refine law_a 1 hx hb hX hbl S.2.2.2 hl (k0 := 0) (k4 := 4) rfl rfl (by omega) hL da_1324 (by decide) ?_
  refine lv_aload_n hx hb dw_1330 rfl (lv_at hl 3 rfl) ?_
  refine law_h (av := [.ref (q 0), .int (xs (i + 1)), .ref qo]) lw_179 hx hb hml C S (c_L_winners l hfl D dA q qo (xs (i + 1)) w w' o res e1 (fun k hk => by have h9 := hA.1 k hk; simp at h9; exact h9)) rfl hl.1 rfl (by decide) dw_1331 ⟨(Nat.le_of_ble_eq_true rfl), (Nat.le_of_ble_eq_true rfl)⟩ hf (fun H locs S => ?_)
  refine lv_istore (lv' := [(5, .int (cdX [0] res)), (0, .ref bb), (1, .ref (q 0)), (2, .ref (qm 0)), (3, .ref qo), (4, .int (nI i))]) hx hb dw_1334 hl (by decide) rfl (fun ls hl => ?_)
  refine lv_aload_n hx hb dw_1336 rfl (lv_at hl 3 rfl) ?_
  refine law_a 1 hx hb hX hbl S.2.2.2 hl (k0 := 1) (k4 := 5) rfl rfl (by omega) hL da_1337 (by decide) ?_
  refine law_m (rm := RM_m_winners) (As := [.int (xs (i + 1))]) lm_181 hx hb hml C S (c_m_winners l D dA qm (xs (i + 1)) u u' z e2) rfl rfl ⟨(Nat.le_of_ble_eq_true rfl), (Nat.le_of_ble_eq_true rfl)⟩ rfl hl.1 rfl (by decide) dw_1343 ⟨by omega, by omega⟩ (fun H locs S => ?_)
  refine lv_istore (lv' := [(6, .int z), (5, .int (cdX [0] res)), (0, .ref bb), (1, .ref (q 0)), (2, .ref (qm 0)), (3, .ref qo), (4, .int (nI i))]) hx hb dw_1346 hl (by decide) rfl (fun ls hl => ?_)
  exact law_t dt_1348 (by decide) hx hb hml C S hl hA.2.1 (hA.o (by decide) o) ⟨(Nat.le_of_ble_eq_true rfl), (Nat.le_of_ble_eq_true rfl)⟩ ⟨by omega, by omega⟩ (fun H locs S => kk w' u' _ H locs ls hI' S (lv_sub hl [2, 3, 4, 5, 6] rfl))
set_option maxHeartbeats 4000000 in
set_option maxRecDepth 20000 in
theorem case_21 (X : LX p s m meth c bb L xs l D dA q qm qo) (hI : Inv t w u) (ht : t ≤ 600) (S : LSt D dA q qm qo s.heap w u o H locs) (hi : i + 4 < L) (hl : lv_has ls 7 [(0, .ref bb), (1, .ref (q 0)), (2, .ref (qm 0)), (3, .ref qo), (4, .int (nI i))]) (hf : cells + 4 ≤ room_1.cells ∧ slots + 24 ≤ room_1.slots) (kk : NX p l e s m below meth c bb D dA q qm qo t i cells slots) : W p l e room_1 s m #[Value.ref bb] below meth c H locs cells slots (lw_Z below #[Value.ref bb] s) (F0 m 1379 ls []) := by
  obtain ⟨⟨hx, hb, hr, hml, hown, hts, hX, hbl, hlocks, hgv⟩, hfl, hL, C⟩ := X
  obtain ⟨res, w', z, u', e1, e2, hI', hA⟩ := q_winnersByHand hI (xs (i + 1))
  refine lv_aload_n hx hb dw_1379 rfl (lv_at hl 1 rfl) ?_
  refine law_a 1 hx hb hX hbl S.2.2.2 hl (k0 := 0) (k4 := 4) rfl rfl (by omega) hL da_1380 (by decide) ?_
  refine lv_aload_n hx hb dw_1386 rfl (lv_at hl 3 rfl) ?_
  refine law_h (av := [.ref (q 0), .int (xs (i + 1)), .ref qo]) lw_182 hx hb hml C S (c_L_winnersByHand l hfl D dA q qo (xs (i + 1)) w w' o res e1 (fun k hk => by have h9 := hA.1 k hk; simp at h9; exact h9)) rfl hl.1 rfl (by decide) dw_1387 ⟨(Nat.le_of_ble_eq_true rfl), (Nat.le_of_ble_eq_true rfl)⟩ hf (fun H locs S => ?_)
  refine lv_istore (lv' := [(5, .int (cdX [0] res)), (0, .ref bb), (1, .ref (q 0)), (2, .ref (qm 0)), (3, .ref qo), (4, .int (nI i))]) hx hb dw_1390 hl (by decide) rfl (fun ls hl => ?_)
  refine lv_aload_n hx hb dw_1392 rfl (lv_at hl 3 rfl) ?_
  refine law_a 1 hx hb hX hbl S.2.2.2 hl (k0 := 1) (k4 := 5) rfl rfl (by omega) hL da_1393 (by decide) ?_
  refine law_m (rm := RM_m_winnersByHand) (As := [.int (xs (i + 1))]) lm_184 hx hb hml C S (c_m_winnersByHand l D dA qm (xs (i + 1)) u u' z e2) rfl rfl ⟨(Nat.le_of_ble_eq_true rfl), (Nat.le_of_ble_eq_true rfl)⟩ rfl hl.1 rfl (by decide) dw_1399 ⟨by omega, by omega⟩ (fun H locs S => ?_)
  refine lv_istore (lv' := [(6, .int z), (5, .int (cdX [0] res)), (0, .ref bb), (1, .ref (q 0)), (2, .ref (qm 0)), (3, .ref qo), (4, .int (nI i))]) hx hb dw_1402 hl (by decide) rfl (fun ls hl => ?_)
  exact law_t dt_1404 (by decide) hx hb hml C S hl hA.2.1 (hA.o (by decide) o) ⟨(Nat.le_of_ble_eq_true rfl), (Nat.le_of_ble_eq_true rfl)⟩ ⟨by omega, by omega⟩ (fun H locs S => kk w' u' _ H locs ls hI' S (lv_sub hl [2, 3, 4, 5, 6] rfl))
set_option maxHeartbeats 4000000 in
set_option maxRecDepth 20000 in
theorem case_22 (X : LX p s m meth c bb L xs l D dA q qm qo) (hI : Inv t w u) (ht : t ≤ 600) (S : LSt D dA q qm qo s.heap w u o H locs) (hi : i + 4 < L) (hl : lv_has ls 7 [(0, .ref bb), (1, .ref (q 0)), (2, .ref (qm 0)), (3, .ref qo), (4, .int (nI i))]) (hf : cells + 4 ≤ room_1.cells ∧ slots + 24 ≤ room_1.slots) (kk : NX p l e s m below meth c bb D dA q qm qo t i cells slots) : W p l e room_1 s m #[Value.ref bb] below meth c H locs cells slots (lw_Z below #[Value.ref bb] s) (F0 m 1435 ls []) := by
  obtain ⟨⟨hx, hb, hr, hml, hown, hts, hX, hbl, hlocks, hgv⟩, hfl, hL, C⟩ := X
  obtain ⟨res, w', z, u', e1, e2, hI', hA⟩ := q_tallies hI (xs (i + 1))
  refine lv_aload_n hx hb dw_1435 rfl (lv_at hl 1 rfl) ?_
  refine law_a 1 hx hb hX hbl S.2.2.2 hl (k0 := 0) (k4 := 4) rfl rfl (by omega) hL da_1436 (by decide) ?_
  refine lv_aload_n hx hb dw_1442 rfl (lv_at hl 3 rfl) ?_
  refine law_h (av := [.ref (q 0), .int (xs (i + 1)), .ref qo]) lw_185 hx hb hml C S (c_L_tallies l hfl D dA q qo (xs (i + 1)) w w' o res e1 (fun k hk => by have h9 := hA.1 k hk; simp at h9; exact h9)) rfl hl.1 rfl (by decide) dw_1443 ⟨(Nat.le_of_ble_eq_true rfl), (Nat.le_of_ble_eq_true rfl)⟩ hf (fun H locs S => ?_)
  refine lv_istore (lv' := [(5, .int (cdX [0] res)), (0, .ref bb), (1, .ref (q 0)), (2, .ref (qm 0)), (3, .ref qo), (4, .int (nI i))]) hx hb dw_1446 hl (by decide) rfl (fun ls hl => ?_)
  refine lv_aload_n hx hb dw_1448 rfl (lv_at hl 3 rfl) ?_
  refine law_a 1 hx hb hX hbl S.2.2.2 hl (k0 := 1) (k4 := 5) rfl rfl (by omega) hL da_1449 (by decide) ?_
  refine law_m (rm := RM_m_tallies) (As := [.int (xs (i + 1))]) lm_187 hx hb hml C S (c_m_tallies l D dA qm (xs (i + 1)) u u' z e2) rfl rfl ⟨(Nat.le_of_ble_eq_true rfl), (Nat.le_of_ble_eq_true rfl)⟩ rfl hl.1 rfl (by decide) dw_1455 ⟨by omega, by omega⟩ (fun H locs S => ?_)
  refine lv_istore (lv' := [(6, .int z), (5, .int (cdX [0] res)), (0, .ref bb), (1, .ref (q 0)), (2, .ref (qm 0)), (3, .ref qo), (4, .int (nI i))]) hx hb dw_1458 hl (by decide) rfl (fun ls hl => ?_)
  exact law_t dt_1460 (by decide) hx hb hml C S hl hA.2.1 (hA.o (by decide) o) ⟨(Nat.le_of_ble_eq_true rfl), (Nat.le_of_ble_eq_true rfl)⟩ ⟨by omega, by omega⟩ (fun H locs S => kk w' u' _ H locs ls hI' S (lv_sub hl [2, 3, 4, 5, 6] rfl))
set_option maxHeartbeats 4000000 in
set_option maxRecDepth 20000 in
theorem case_23 (X : LX p s m meth c bb L xs l D dA q qm qo) (hI : Inv t w u) (ht : t ≤ 600) (S : LSt D dA q qm qo s.heap w u o H locs) (hi : i + 4 < L) (hl : lv_has ls 7 [(0, .ref bb), (1, .ref (q 0)), (2, .ref (qm 0)), (3, .ref qo), (4, .int (nI i))]) (hf : cells + 4 ≤ room_1.cells ∧ slots + 24 ≤ room_1.slots) (kk : NX p l e s m below meth c bb D dA q qm qo t i cells slots) : W p l e room_1 s m #[Value.ref bb] below meth c H locs cells slots (lw_Z below #[Value.ref bb] s) (F0 m 1491 ls []) := by
  obtain ⟨⟨hx, hb, hr, hml, hown, hts, hX, hbl, hlocks, hgv⟩, hfl, hL, C⟩ := X
  obtain ⟨res, w', z, u', e1, e2, hI', hA⟩ := q_votes hI (xs (i + 1)) (xs (i + 2)) (xs (i + 3))
  refine lv_aload_n hx hb dw_1491 rfl (lv_at hl 1 rfl) ?_
  refine law_a 1 hx hb hX hbl S.2.2.2 hl (k0 := 0) (k4 := 4) rfl rfl (by omega) hL da_1492 (by decide) ?_
  refine law_a 2 hx hb hX hbl S.2.2.2 hl (k0 := 0) (k4 := 4) rfl rfl (by omega) hL da_1498 (by decide) ?_
  refine law_a 3 hx hb hX hbl S.2.2.2 hl (k0 := 0) (k4 := 4) rfl rfl (by omega) hL da_1504 (by decide) ?_
  refine lv_aload_n hx hb dw_1510 rfl (lv_at hl 3 rfl) ?_
  refine law_h (av := [.ref (q 0), .int (xs (i + 1)), .int (xs (i + 2)), .int (xs (i + 3)), .ref qo]) lw_188 hx hb hml C S (c_L_votes l hfl D dA q qo (xs (i + 1)) (xs (i + 2)) (xs (i + 3)) w w' o res e1 (fun k hk => by have h9 := hA.1 k hk; simp at h9; exact h9)) rfl hl.1 rfl (by decide) dw_1511 ⟨(Nat.le_of_ble_eq_true rfl), (Nat.le_of_ble_eq_true rfl)⟩ hf (fun H locs S => ?_)
  refine lv_istore (lv' := [(5, .int (cdX [0] res)), (0, .ref bb), (1, .ref (q 0)), (2, .ref (qm 0)), (3, .ref qo), (4, .int (nI i))]) hx hb dw_1514 hl (by decide) rfl (fun ls hl => ?_)
  refine lv_aload_n hx hb dw_1516 rfl (lv_at hl 3 rfl) ?_
  refine law_a 1 hx hb hX hbl S.2.2.2 hl (k0 := 1) (k4 := 5) rfl rfl (by omega) hL da_1517 (by decide) ?_
  refine law_a 2 hx hb hX hbl S.2.2.2 hl (k0 := 1) (k4 := 5) rfl rfl (by omega) hL da_1523 (by decide) ?_
  refine law_a 3 hx hb hX hbl S.2.2.2 hl (k0 := 1) (k4 := 5) rfl rfl (by omega) hL da_1529 (by decide) ?_
  refine law_m (rm := RM_m_votes) (As := [.int (xs (i + 1)), .int (xs (i + 2)), .int (xs (i + 3))]) lm_190 hx hb hml C S (c_m_votes l D dA qm (xs (i + 1)) (xs (i + 2)) (xs (i + 3)) u u' z e2) rfl rfl ⟨(Nat.le_of_ble_eq_true rfl), (Nat.le_of_ble_eq_true rfl)⟩ rfl hl.1 rfl (by decide) dw_1535 ⟨by omega, by omega⟩ (fun H locs S => ?_)
  refine lv_istore (lv' := [(6, .int z), (5, .int (cdX [0] res)), (0, .ref bb), (1, .ref (q 0)), (2, .ref (qm 0)), (3, .ref qo), (4, .int (nI i))]) hx hb dw_1538 hl (by decide) rfl (fun ls hl => ?_)
  exact law_t dt_1540 (by decide) hx hb hml C S hl hA.2.1 (hA.o (by decide) o) ⟨(Nat.le_of_ble_eq_true rfl), (Nat.le_of_ble_eq_true rfl)⟩ ⟨by omega, by omega⟩ (fun H locs S => kk w' u' _ H locs ls hI' S (lv_sub hl [2, 3, 4, 5, 6] rfl))
end CASES3

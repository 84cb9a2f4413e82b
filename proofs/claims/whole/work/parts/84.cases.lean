/-! THE LAW'S CASES -/
def LX (p : Program) (s : State) (m : MethodId) (meth : Method) (c : Code) (bb L : Nat) (xs : Nat → Int32) (l : Launch) (D : va_G) (dA : Nat → ClassId) (q qm : Nat → Nat) (qo : Nat) : Prop := lw_At p s m meth c bb L xs ∧ l.stackTraces = false ∧ L ≤ 2560 ∧ LCx D dA q qm qo s m #[Value.ref bb]
/-- how the law goes on behind a call -/
def NX (p : Program) (l : Launch) (e : Env) (s : State) (m : MethodId) (below : List Frame) (meth : Method) (c : Code) (bb : Nat) (D : va_G) (dA : Nat → ClassId) (q qm : Nat → Nat) (qo t i cells slots : Nat) : Prop := ∀ (w' u' : Wt) (o' : Int64) (H1 : Heap) (locs1 : List Loc) (ls' : Array Slot), Inv (t + 1) w' u' → LSt D dA q qm qo s.heap w' u' o' H1 locs1 → lv_has ls' 7 [(0, .ref bb), (1, .ref (q 0)), (2, .ref (qm 0)), (3, .ref qo), (4, .int (nI i))] → W p l e room_1 s m #[Value.ref bb] below meth c H1 locs1 (cells + 4) (slots + 24) (lw_Z below #[Value.ref bb] s) (F0 m 1820 ls' [])
theorem lw_105 : lkW 105 yL_enter cL_enter 7 [(0, 14, 17, 13), (0, 14, 21, 15), (0, 14, 25, 17)] 6 := ⟨wall_of 583 (by decide +kernel) rfl, wall_of 584 (by decide +kernel) rfl, wall_of 0 (by decide +kernel) rfl, wall_of 585 (by decide +kernel) rfl, ⟨by decide, by decide⟩, by decide +kernel⟩
theorem lm_110 : lkV RL 110 RX10 yX10_enter cX10_enter 6 (some .int) 4 := ⟨wall_of 1122 (by decide +kernel) rfl, wall_of 1123 (by decide +kernel) rfl, wall_of 1124 (by decide +kernel) rfl, wall_of 11 (by decide +kernel) rfl, wall_of 1125 (by decide +kernel) rfl, ⟨by decide, by decide⟩, by decide +kernel⟩
theorem lw_114 : lkW 114 yL_strike cL_strike 4 [(0, 9, 12, 13), (0, 9, 15, 17)] 3 := ⟨wall_of 697 (by decide +kernel) rfl, wall_of 698 (by decide +kernel) rfl, wall_of 0 (by decide +kernel) rfl, wall_of 699 (by decide +kernel) rfl, ⟨by decide, by decide⟩, by decide +kernel⟩
theorem lm_117 : lkV RL 117 RX10 yX10_strike cX10_strike 4 (some .int) 1 := ⟨wall_of 1136 (by decide +kernel) rfl, wall_of 1137 (by decide +kernel) rfl, wall_of 1138 (by decide +kernel) rfl, wall_of 11 (by decide +kernel) rfl, wall_of 1139 (by decide +kernel) rfl, ⟨by decide, by decide⟩, by decide +kernel⟩
theorem lw_118 : lkW 118 yL_isAllowed cL_isAllowed 6 [(0, 19, 22, 13), (0, 19, 26, 15)] 5 := ⟨wall_of 710 (by decide +kernel) rfl, wall_of 711 (by decide +kernel) rfl, wall_of 0 (by decide +kernel) rfl, wall_of 712 (by decide +kernel) rfl, ⟨by decide, by decide⟩, by decide +kernel⟩
theorem lm_121 : lkV RL 121 RX10 yX10_isAllowed cX10_isAllowed 4 (some .boolean) 3 := ⟨wall_of 1152 (by decide +kernel) rfl, wall_of 1153 (by decide +kernel) rfl, wall_of 1154 (by decide +kernel) rfl, wall_of 11 (by decide +kernel) rfl, wall_of 1155 (by decide +kernel) rfl, ⟨by decide, by decide⟩, by decide +kernel⟩
theorem lw_122 : lkW 122 yL_pass cL_pass 4 [(0, 9, 12, 15), (0, 9, 15, 17)] 3 := ⟨wall_of 719 (by decide +kernel) rfl, wall_of 720 (by decide +kernel) rfl, wall_of 0 (by decide +kernel) rfl, wall_of 721 (by decide +kernel) rfl, ⟨by decide, by decide⟩, by decide +kernel⟩
theorem lm_124 : lkV RL 124 RX10 yX10_pass cX10_pass 3 (some .int) 1 := ⟨wall_of 1156 (by decide +kernel) rfl, wall_of 1157 (by decide +kernel) rfl, wall_of 1158 (by decide +kernel) rfl, wall_of 11 (by decide +kernel) rfl, wall_of 1159 (by decide +kernel) rfl, ⟨by decide, by decide⟩, by decide +kernel⟩
theorem lw_125 : lkW 125 yL_type cL_type 4 [(0, 9, 12, 15), (0, 9, 15, 17)] 3 := ⟨wall_of 728 (by decide +kernel) rfl, wall_of 729 (by decide +kernel) rfl, wall_of 0 (by decide +kernel) rfl, wall_of 730 (by decide +kernel) rfl, ⟨by decide, by decide⟩, by decide +kernel⟩
theorem lm_128 : lkV RL 128 RX10 yX10_type cX10_type 3 (some .int) 1 := ⟨wall_of 1160 (by decide +kernel) rfl, wall_of 1161 (by decide +kernel) rfl, wall_of 1162 (by decide +kernel) rfl, wall_of 11 (by decide +kernel) rfl, wall_of 1163 (by decide +kernel) rfl, ⟨by decide, by decide⟩, by decide +kernel⟩
theorem lm_129 : lkV RL 129 RX9 yX9_wipe cX9_wipe 2 (some .int) 0 := ⟨wall_of 345 (by decide +kernel) rfl, wall_of 346 (by decide +kernel) rfl, wall_of 347 (by decide +kernel) rfl, wall_of 1 (by decide +kernel) rfl, wall_of 348 (by decide +kernel) rfl, ⟨by decide, by decide⟩, by decide +kernel⟩
theorem lm_132 : lkV RL 132 RX10 yX10_wipe cX10_wipe 2 (some .int) 0 := ⟨wall_of 1167 (by decide +kernel) rfl, wall_of 1168 (by decide +kernel) rfl, wall_of 1169 (by decide +kernel) rfl, wall_of 11 (by decide +kernel) rfl, wall_of 1170 (by decide +kernel) rfl, ⟨by decide, by decide⟩, by decide +kernel⟩
theorem da_169 : decode code 169 = .ok (.aload_n 0, 1) ∧ decode code (169 + 1) = .ok (.iload 4, 2) ∧ decode code (169 + 3) = .ok (.iconst 1, 1) ∧ decode code (169 + 4) = .ok (.iadd, 1) ∧ decode code (169 + 5) = .ok (.iaload, 1) := by decide +kernel
theorem da_175 : decode code 175 = .ok (.aload_n 0, 1) ∧ decode code (175 + 1) = .ok (.iload 4, 2) ∧ decode code (175 + 3) = .ok (.iconst 2, 1) ∧ decode code (175 + 4) = .ok (.iadd, 1) ∧ decode code (175 + 5) = .ok (.iaload, 1) := by decide +kernel
theorem da_181 : decode code 181 = .ok (.aload_n 0, 1) ∧ decode code (181 + 1) = .ok (.iload 4, 2) ∧ decode code (181 + 3) = .ok (.iconst 3, 1) ∧ decode code (181 + 4) = .ok (.iadd, 1) ∧ decode code (181 + 5) = .ok (.iaload, 1) := by decide +kernel
theorem da_187 : decode code 187 = .ok (.aload_n 0, 1) ∧ decode code (187 + 1) = .ok (.iload 4, 2) ∧ decode code (187 + 3) = .ok (.iconst 4, 1) ∧ decode code (187 + 4) = .ok (.iadd, 1) ∧ decode code (187 + 5) = .ok (.iaload, 1) := by decide +kernel
theorem dw_168 : decode code 168 = .ok (.aload_n 1, 1) := by decide +kernel
theorem dw_193 : decode code 193 = .ok (.aload_n 3, 1) := by decide +kernel
theorem dw_194 : decode code 194 = .ok (.invokestatic 105, 3) := by decide +kernel
theorem dw_197 : decode code 197 = .ok (.istore 5, 2) := by decide +kernel
theorem dw_199 : decode code 199 = .ok (.aload_n 2, 1) := by decide +kernel
theorem da_200 : decode code 200 = .ok (.aload_n 0, 1) ∧ decode code (200 + 1) = .ok (.iload 4, 2) ∧ decode code (200 + 3) = .ok (.iconst 1, 1) ∧ decode code (200 + 4) = .ok (.iadd, 1) ∧ decode code (200 + 5) = .ok (.iaload, 1) := by decide +kernel
theorem da_206 : decode code 206 = .ok (.aload_n 0, 1) ∧ decode code (206 + 1) = .ok (.iload 4, 2) ∧ decode code (206 + 3) = .ok (.iconst 2, 1) ∧ decode code (206 + 4) = .ok (.iadd, 1) ∧ decode code (206 + 5) = .ok (.iaload, 1) := by decide +kernel
theorem da_212 : decode code 212 = .ok (.aload_n 0, 1) ∧ decode code (212 + 1) = .ok (.iload 4, 2) ∧ decode code (212 + 3) = .ok (.iconst 3, 1) ∧ decode code (212 + 4) = .ok (.iadd, 1) ∧ decode code (212 + 5) = .ok (.iaload, 1) := by decide +kernel
theorem da_218 : decode code 218 = .ok (.aload_n 0, 1) ∧ decode code (218 + 1) = .ok (.iload 4, 2) ∧ decode code (218 + 3) = .ok (.iconst 4, 1) ∧ decode code (218 + 4) = .ok (.iadd, 1) ∧ decode code (218 + 5) = .ok (.iaload, 1) := by decide +kernel
theorem dw_224 : decode code 224 = .ok (.invokevirtual 110, 3) := by decide +kernel
theorem dw_227 : decode code 227 = .ok (.istore 6, 2) := by decide +kernel
theorem dt_229 : TL 229 1563 := ⟨by decide +kernel, by decide +kernel, by decide +kernel, by decide +kernel, by decide +kernel, by decide +kernel, by decide +kernel, by decide +kernel, by decide +kernel, by decide +kernel, by decide +kernel, by decide +kernel, by decide +kernel, by decide +kernel⟩
theorem da_261 : decode code 261 = .ok (.aload_n 0, 1) ∧ decode code (261 + 1) = .ok (.iload 4, 2) ∧ decode code (261 + 3) = .ok (.iconst 1, 1) ∧ decode code (261 + 4) = .ok (.iadd, 1) ∧ decode code (261 + 5) = .ok (.iaload, 1) := by decide +kernel
theorem dw_260 : decode code 260 = .ok (.aload_n 1, 1) := by decide +kernel
theorem dw_267 : decode code 267 = .ok (.aload_n 3, 1) := by decide +kernel
theorem dw_268 : decode code 268 = .ok (.invokestatic 114, 3) := by decide +kernel
theorem dw_271 : decode code 271 = .ok (.istore 5, 2) := by decide +kernel
theorem dw_273 : decode code 273 = .ok (.aload_n 2, 1) := by decide +kernel
theorem da_274 : decode code 274 = .ok (.aload_n 0, 1) ∧ decode code (274 + 1) = .ok (.iload 4, 2) ∧ decode code (274 + 3) = .ok (.iconst 1, 1) ∧ decode code (274 + 4) = .ok (.iadd, 1) ∧ decode code (274 + 5) = .ok (.iaload, 1) := by decide +kernel
theorem dw_280 : decode code 280 = .ok (.invokevirtual 117, 3) := by decide +kernel
theorem dw_283 : decode code 283 = .ok (.istore 6, 2) := by decide +kernel
theorem dt_285 : TL 285 1507 := ⟨by decide +kernel, by decide +kernel, by decide +kernel, by decide +kernel, by decide +kernel, by decide +kernel, by decide +kernel, by decide +kernel, by decide +kernel, by decide +kernel, by decide +kernel, by decide +kernel, by decide +kernel, by decide +kernel⟩
theorem da_317 : decode code 317 = .ok (.aload_n 0, 1) ∧ decode code (317 + 1) = .ok (.iload 4, 2) ∧ decode code (317 + 3) = .ok (.iconst 1, 1) ∧ decode code (317 + 4) = .ok (.iadd, 1) ∧ decode code (317 + 5) = .ok (.iaload, 1) := by decide +kernel
theorem da_323 : decode code 323 = .ok (.aload_n 0, 1) ∧ decode code (323 + 1) = .ok (.iload 4, 2) ∧ decode code (323 + 3) = .ok (.iconst 2, 1) ∧ decode code (323 + 4) = .ok (.iadd, 1) ∧ decode code (323 + 5) = .ok (.iaload, 1) := by decide +kernel
theorem da_329 : decode code 329 = .ok (.aload_n 0, 1) ∧ decode code (329 + 1) = .ok (.iload 4, 2) ∧ decode code (329 + 3) = .ok (.iconst 3, 1) ∧ decode code (329 + 4) = .ok (.iadd, 1) ∧ decode code (329 + 5) = .ok (.iaload, 1) := by decide +kernel
theorem dw_316 : decode code 316 = .ok (.aload_n 1, 1) := by decide +kernel
theorem dw_335 : decode code 335 = .ok (.aload_n 3, 1) := by decide +kernel
theorem dw_336 : decode code 336 = .ok (.invokestatic 118, 3) := by decide +kernel
theorem dw_339 : decode code 339 = .ok (.istore 5, 2) := by decide +kernel
theorem dw_341 : decode code 341 = .ok (.aload_n 2, 1) := by decide +kernel
theorem da_342 : decode code 342 = .ok (.aload_n 0, 1) ∧ decode code (342 + 1) = .ok (.iload 4, 2) ∧ decode code (342 + 3) = .ok (.iconst 1, 1) ∧ decode code (342 + 4) = .ok (.iadd, 1) ∧ decode code (342 + 5) = .ok (.iaload, 1) := by decide +kernel
theorem da_348 : decode code 348 = .ok (.aload_n 0, 1) ∧ decode code (348 + 1) = .ok (.iload 4, 2) ∧ decode code (348 + 3) = .ok (.iconst 2, 1) ∧ decode code (348 + 4) = .ok (.iadd, 1) ∧ decode code (348 + 5) = .ok (.iaload, 1) := by decide +kernel
theorem da_354 : decode code 354 = .ok (.aload_n 0, 1) ∧ decode code (354 + 1) = .ok (.iload 4, 2) ∧ decode code (354 + 3) = .ok (.iconst 3, 1) ∧ decode code (354 + 4) = .ok (.iadd, 1) ∧ decode code (354 + 5) = .ok (.iaload, 1) := by decide +kernel
theorem dw_360 : decode code 360 = .ok (.invokevirtual 121, 3) := by decide +kernel
theorem dw_363 : decode code 363 = .ok (.istore 6, 2) := by decide +kernel
theorem dt_365 : TZ 365 1420 := ⟨by decide +kernel, by decide +kernel, by decide +kernel, by decide +kernel, by decide +kernel, by decide +kernel, by decide +kernel, by decide +kernel, by decide +kernel, by decide +kernel, by decide +kernel, by decide +kernel, by decide +kernel, by decide +kernel, by decide +kernel, by decide +kernel, by decide +kernel⟩
theorem da_404 : decode code 404 = .ok (.aload_n 0, 1) ∧ decode code (404 + 1) = .ok (.iload 4, 2) ∧ decode code (404 + 3) = .ok (.iconst 1, 1) ∧ decode code (404 + 4) = .ok (.iadd, 1) ∧ decode code (404 + 5) = .ok (.iaload, 1) := by decide +kernel
theorem dw_403 : decode code 403 = .ok (.aload_n 1, 1) := by decide +kernel
theorem dw_410 : decode code 410 = .ok (.aload_n 3, 1) := by decide +kernel
theorem dw_411 : decode code 411 = .ok (.invokestatic 122, 3) := by decide +kernel
theorem dw_414 : decode code 414 = .ok (.istore 5, 2) := by decide +kernel
theorem dw_416 : decode code 416 = .ok (.aload_n 2, 1) := by decide +kernel
theorem da_417 : decode code 417 = .ok (.aload_n 0, 1) ∧ decode code (417 + 1) = .ok (.iload 4, 2) ∧ decode code (417 + 3) = .ok (.iconst 1, 1) ∧ decode code (417 + 4) = .ok (.iadd, 1) ∧ decode code (417 + 5) = .ok (.iaload, 1) := by decide +kernel
theorem dw_423 : decode code 423 = .ok (.invokevirtual 124, 3) := by decide +kernel
theorem dw_426 : decode code 426 = .ok (.istore 6, 2) := by decide +kernel
theorem dt_428 : TL 428 1364 := ⟨by decide +kernel, by decide +kernel, by decide +kernel, by decide +kernel, by decide +kernel, by decide +kernel, by decide +kernel, by decide +kernel, by decide +kernel, by decide +kernel, by decide +kernel, by decide +kernel, by decide +kernel, by decide +kernel⟩
theorem da_460 : decode code 460 = .ok (.aload_n 0, 1) ∧ decode code (460 + 1) = .ok (.iload 4, 2) ∧ decode code (460 + 3) = .ok (.iconst 1, 1) ∧ decode code (460 + 4) = .ok (.iadd, 1) ∧ decode code (460 + 5) = .ok (.iaload, 1) := by decide +kernel
theorem dw_459 : decode code 459 = .ok (.aload_n 1, 1) := by decide +kernel
theorem dw_466 : decode code 466 = .ok (.i2c, 1) := by decide +kernel
theorem dw_467 : decode code 467 = .ok (.aload_n 3, 1) := by decide +kernel
theorem dw_468 : decode code 468 = .ok (.invokestatic 125, 3) := by decide +kernel
theorem dw_471 : decode code 471 = .ok (.istore 5, 2) := by decide +kernel
theorem dw_473 : decode code 473 = .ok (.aload_n 2, 1) := by decide +kernel
theorem da_474 : decode code 474 = .ok (.aload_n 0, 1) ∧ decode code (474 + 1) = .ok (.iload 4, 2) ∧ decode code (474 + 3) = .ok (.iconst 1, 1) ∧ decode code (474 + 4) = .ok (.iadd, 1) ∧ decode code (474 + 5) = .ok (.iaload, 1) := by decide +kernel
theorem dw_480 : decode code 480 = .ok (.i2c, 1) := by decide +kernel
theorem dw_481 : decode code 481 = .ok (.invokevirtual 128, 3) := by decide +kernel
theorem dw_484 : decode code 484 = .ok (.istore 6, 2) := by decide +kernel
theorem dt_486 : TL 486 1306 := ⟨by decide +kernel, by decide +kernel, by decide +kernel, by decide +kernel, by decide +kernel, by decide +kernel, by decide +kernel, by decide +kernel, by decide +kernel, by decide +kernel, by decide +kernel, by decide +kernel, by decide +kernel, by decide +kernel⟩
theorem dw_517 : decode code 517 = .ok (.aload_n 1, 1) := by decide +kernel
theorem dw_518 : decode code 518 = .ok (.invokevirtual 129, 3) := by decide +kernel
theorem dw_521 : decode code 521 = .ok (.aload_n 2, 1) := by decide +kernel
theorem dw_522 : decode code 522 = .ok (.invokevirtual 132, 3) := by decide +kernel
theorem dw_525 : decode code 525 = .ok (.if_icmp .eq 1295, 3) := by decide +kernel
section CASES0
variable {p : Program} {l : Launch} {e : Env} {s : State} {m : MethodId} {below : List Frame} {meth : Method} {c : Code} {bb L : Nat} {xs : Nat → Int32} {D : va_G} {dA : Nat → ClassId} {q qm : Nat → Nat} {qo : Nat} {t i : Nat} {w u : Wt} {o : Int64} {H : Heap} {locs : List Loc} {cells slots : Nat} {ls : Array Slot}
set_option maxHeartbeats 4000000 in
set_option maxRecDepth 20000 in
theorem case_0 (X : LX p s m meth c bb L xs l D dA q qm qo) (hI : Inv t w u) (ht : t ≤ 600) (S : LSt D dA q qm qo s.heap w u o H locs) (hi : i + 4 < L) (hl : lv_has ls 7 [(0, .ref bb), (1, .ref (q 0)), (2, .ref (qm 0)), (3, .ref qo), (4, .int (nI i))]) (hf : cells + 4 ≤ room_1.cells ∧ slots + 24 ≤ room_1.slots) (kk : NX p l e s m below meth c bb D dA q qm qo t i cells slots) : W p l e room_1 s m #[Value.ref bb] below meth c H locs cells slots (lw_Z below #[Value.ref bb] s) (F0 m 168 ls []) := by
  obtain ⟨⟨hx, hb, hr, hml, hown, hts, hX, hbl, hlocks, hgv⟩, hfl, hL, C⟩ := X
  obtain ⟨res, w', z, u', e1, e2, hI', hA⟩ := q_enter hI (xs (i + 1)) (xs (i + 2)) (xs (i + 3)) (xs (i + 4))
  refine lv_aload_n hx hb dw_168 rfl (lv_at hl 1 rfl) ?_
  refine law_a 1 hx hb hX hbl S.2.2.2 hl (k0 := 0) (k4 := 4) rfl rfl (by omega) hL da_169 (by decide) ?_
  refine law_a 2 hx hb hX hbl S.2.2.2 hl (k0 := 0) (k4 := 4) rfl rfl (by omega) hL da_175 (by decide) ?_
  refine law_a 3 hx hb hX hbl S.2.2.2 hl (k0 := 0) (k4 := 4) rfl rfl (by omega) hL da_181 (by decide) ?_
  refine law_a 4 hx hb hX hbl S.2.2.2 hl (k0 := 0) (k4 := 4) rfl rfl (by omega) hL da_187 (by decide) ?_
  refine lv_aload_n hx hb dw_193 rfl (lv_at hl 3 rfl) ?_
  refine law_h (av := [.ref (q 0), .int (xs (i + 1)), .int (xs (i + 2)), .int (xs (i + 3)), .int (xs (i + 4)), .ref qo]) lw_105 hx hb hml C S (c_L_enter l hfl D dA q qo (xs (i + 1)) (xs (i + 2)) (xs (i + 3)) (xs (i + 4)) w w' o res e1 (fun k hk => by have h9 := hA.1 k hk; simp at h9; exact h9)) rfl hl.1 rfl (by decide) dw_194 ⟨(Nat.le_of_ble_eq_true rfl), (Nat.le_of_ble_eq_true rfl)⟩ hf (fun H locs S => ?_)
  refine lv_istore (lv' := [(5, .int (cdX [0, 1, 2] res)), (0, .ref bb), (1, .ref (q 0)), (2, .ref (qm 0)), (3, .ref qo), (4, .int (nI i))]) hx hb dw_197 hl (by decide) rfl (fun ls hl => ?_)
  refine lv_aload_n hx hb dw_199 rfl (lv_at hl 3 rfl) ?_
  refine law_a 1 hx hb hX hbl S.2.2.2 hl (k0 := 1) (k4 := 5) rfl rfl (by omega) hL da_200 (by decide) ?_
  refine law_a 2 hx hb hX hbl S.2.2.2 hl (k0 := 1) (k4 := 5) rfl rfl (by omega) hL da_206 (by decide) ?_
  refine law_a 3 hx hb hX hbl S.2.2.2 hl (k0 := 1) (k4 := 5) rfl rfl (by omega) hL da_212 (by decide) ?_
  refine law_a 4 hx hb hX hbl S.2.2.2 hl (k0 := 1) (k4 := 5) rfl rfl (by omega) hL da_218 (by decide) ?_
  refine law_m (rm := RM_m_enter) (As := [.int (xs (i + 1)), .int (xs (i + 2)), .int (xs (i + 3)), .int (xs (i + 4))]) lm_110 hx hb hml C S (c_m_enter l D dA qm (xs (i + 1)) (xs (i + 2)) (xs (i + 3)) (xs (i + 4)) u u' z e2) rfl rfl ⟨(Nat.le_of_ble_eq_true rfl), (Nat.le_of_ble_eq_true rfl)⟩ rfl hl.1 rfl (by decide) dw_224 ⟨by omega, by omega⟩ (fun H locs S => ?_)
  refine lv_istore (lv' := [(6, .int z), (5, .int (cdX [0, 1, 2] res)), (0, .ref bb), (1, .ref (q 0)), (2, .ref (qm 0)), (3, .ref qo), (4, .int (nI i))]) hx hb dw_227 hl (by decide) rfl (fun ls hl => ?_)
  exact law_t dt_229 (by decide) hx hb hml C S hl hA.2.1 (hA.o (by decide) o) ⟨(Nat.le_of_ble_eq_true rfl), (Nat.le_of_ble_eq_true rfl)⟩ ⟨by omega, by omega⟩ (fun H locs S => kk w' u' _ H locs ls hI' S (lv_sub hl [2, 3, 4, 5, 6] rfl))
set_option maxHeartbeats 4000000 in
set_option maxRecDepth 20000 in
theorem case_1 (X : LX p s m meth c bb L xs l D dA q qm qo) (hI : Inv t w u) (ht : t ≤ 600) (S : LSt D dA q qm qo s.heap w u o H locs) (hi : i + 4 < L) (hl : lv_has ls 7 [(0, .ref bb), (1, .ref (q 0)), (2, .ref (qm 0)), (3, .ref qo), (4, .int (nI i))]) (hf : cells + 4 ≤ room_1.cells ∧ slots + 24 ≤ room_1.slots) (kk : NX p l e s m below meth c bb D dA q qm qo t i cells slots) : W p l e room_1 s m #[Value.ref bb] below meth c H locs cells slots (lw_Z below #[Value.ref bb] s) (F0 m 260 ls []) := by
  obtain ⟨⟨hx, hb, hr, hml, hown, hts, hX, hbl, hlocks, hgv⟩, hfl, hL, C⟩ := X
  obtain ⟨res, w', z, u', e1, e2, hI', hA⟩ := q_strike hI (xs (i + 1))
  refine lv_aload_n hx hb dw_260 rfl (lv_at hl 1 rfl) ?_
  refine law_a 1 hx hb hX hbl S.2.2.2 hl (k0 := 0) (k4 := 4) rfl rfl (by omega) hL da_261 (by decide) ?_
  refine lv_aload_n hx hb dw_267 rfl (lv_at hl 3 rfl) ?_
  refine law_h (av := [.ref (q 0), .int (xs (i + 1)), .ref qo]) lw_114 hx hb hml C S (c_L_strike l hfl D dA q qo (xs (i + 1)) w w' o res e1 (fun k hk => by have h9 := hA.1 k hk; simp at h9; exact h9)) rfl hl.1 rfl (by decide) dw_268 ⟨(Nat.le_of_ble_eq_true rfl), (Nat.le_of_ble_eq_true rfl)⟩ hf (fun H locs S => ?_)
  refine lv_istore (lv' := [(5, .int (cdX [0, 2] res)), (0, .ref bb), (1, .ref (q 0)), (2, .ref (qm 0)), (3, .ref qo), (4, .int (nI i))]) hx hb dw_271 hl (by decide) rfl (fun ls hl => ?_)
  refine lv_aload_n hx hb dw_273 rfl (lv_at hl 3 rfl) ?_
  refine law_a 1 hx hb hX hbl S.2.2.2 hl (k0 := 1) (k4 := 5) rfl rfl (by omega) hL da_274 (by decide) ?_
  refine law_m (rm := RM_m_strike) (As := [.int (xs (i + 1))]) lm_117 hx hb hml C S (c_m_strike l D dA qm (xs (i + 1)) u u' z e2) rfl rfl ⟨(Nat.le_of_ble_eq_true rfl), (Nat.le_of_ble_eq_true rfl)⟩ rfl hl.1 rfl (by decide) dw_280 ⟨by omega, by omega⟩ (fun H locs S => ?_)
  refine lv_istore (lv' := [(6, .int z), (5, .int (cdX [0, 2] res)), (0, .ref bb), (1, .ref (q 0)), (2, .ref (qm 0)), (3, .ref qo), (4, .int (nI i))]) hx hb dw_283 hl (by decide) rfl (fun ls hl => ?_)
  exact law_t dt_285 (by decide) hx hb hml C S hl hA.2.1 (hA.o (by decide) o) ⟨(Nat.le_of_ble_eq_true rfl), (Nat.le_of_ble_eq_true rfl)⟩ ⟨by omega, by omega⟩ (fun H locs S => kk w' u' _ H locs ls hI' S (lv_sub hl [2, 3, 4, 5, 6] rfl))
set_option maxHeartbeats 4000000 in
set_option maxRecDepth 20000 in
theorem case_2 (X : LX p s m meth c bb L xs l D dA q qm qo) (hI : Inv t w u) (ht : t ≤ 600) (S : LSt D dA q qm qo s.heap w u o H locs) (hi : i + 4 < L) (hl : lv_has ls 7 [(0, .ref bb), (1, .ref (q 0)), (2, .ref (qm 0)), (3, .ref qo), (4, .int (nI i))]) (hf : cells + 4 ≤ room_1.cells ∧ slots + 24 ≤ room_1.slots) (kk : NX p l e s m below meth c bb D dA q qm qo t i cells slots) : W p l e room_1 s m #[Value.ref bb] below meth c H locs cells slots (lw_Z below #[Value.ref bb] s) (F0 m 316 ls []) := by
  obtain ⟨⟨hx, hb, hr, hml, hown, hts, hX, hbl, hlocks, hgv⟩, hfl, hL, C⟩ := X
  obtain ⟨res, z, u', e1, e2, hI', hA⟩ := q_isAllowed hI (xs (i + 1)) (xs (i + 2)) (xs (i + 3))
  refine lv_aload_n hx hb dw_316 rfl (lv_at hl 1 rfl) ?_
  refine law_a 1 hx hb hX hbl S.2.2.2 hl (k0 := 0) (k4 := 4) rfl rfl (by omega) hL da_317 (by decide) ?_
  refine law_a 2 hx hb hX hbl S.2.2.2 hl (k0 := 0) (k4 := 4) rfl rfl (by omega) hL da_323 (by decide) ?_
  refine law_a 3 hx hb hX hbl S.2.2.2 hl (k0 := 0) (k4 := 4) rfl rfl (by omega) hL da_329 (by decide) ?_
  refine lv_aload_n hx hb dw_335 rfl (lv_at hl 3 rfl) ?_
  refine law_h (av := [.ref (q 0), .int (xs (i + 1)), .int (xs (i + 2)), .int (xs (i + 3)), .ref qo]) lw_118 hx hb hml C S (c_L_isAllowed l hfl D dA q qo (xs (i + 1)) (xs (i + 2)) (xs (i + 3)) w o res e1 (fun k hk => by have h9 := hA.1 k hk; simp at h9; exact h9)) rfl hl.1 rfl (by decide) dw_336 ⟨(Nat.le_of_ble_eq_true rfl), (Nat.le_of_ble_eq_true rfl)⟩ hf (fun H locs S => ?_)
  refine lv_istore (lv' := [(5, .int (cdX [0, 1] res)), (0, .ref bb), (1, .ref (q 0)), (2, .ref (qm 0)), (3, .ref qo), (4, .int (nI i))]) hx hb dw_339 hl (by decide) rfl (fun ls hl => ?_)
  refine lv_aload_n hx hb dw_341 rfl (lv_at hl 3 rfl) ?_
  refine law_a 1 hx hb hX hbl S.2.2.2 hl (k0 := 1) (k4 := 5) rfl rfl (by omega) hL da_342 (by decide) ?_
  refine law_a 2 hx hb hX hbl S.2.2.2 hl (k0 := 1) (k4 := 5) rfl rfl (by omega) hL da_348 (by decide) ?_
  refine law_a 3 hx hb hX hbl S.2.2.2 hl (k0 := 1) (k4 := 5) rfl rfl (by omega) hL da_354 (by decide) ?_
  refine law_m (rm := RM_m_isAllowed) (As := [.int (xs (i + 1)), .int (xs (i + 2)), .int (xs (i + 3))]) lm_121 hx hb hml C S (c_m_isAllowed l D dA qm (xs (i + 1)) (xs (i + 2)) (xs (i + 3)) u u' z e2) rfl rfl ⟨(Nat.le_of_ble_eq_true rfl), (Nat.le_of_ble_eq_true rfl)⟩ rfl hl.1 rfl (by decide) dw_360 ⟨by omega, by omega⟩ (fun H locs S => ?_)
  refine lv_istore (lv' := [(6, .int z), (5, .int (cdX [0, 1] res)), (0, .ref bb), (1, .ref (q 0)), (2, .ref (qm 0)), (3, .ref qo), (4, .int (nI i))]) hx hb dw_363 hl (by decide) rfl (fun ls hl => ?_)
  exact law_z dt_365 (by decide) hx hb hml C S hl hA.2.1 (hA.oz (by decide) o) ⟨(Nat.le_of_ble_eq_true rfl), (Nat.le_of_ble_eq_true rfl)⟩ ⟨by omega, by omega⟩ (fun H locs S => kk w u' _ H locs ls hI' S (lv_sub hl [2, 3, 4, 5, 6] rfl))
set_option maxHeartbeats 4000000 in
set_option maxRecDepth 20000 in
theorem case_3 (X : LX p s m meth c bb L xs l D dA q qm qo) (hI : Inv t w u) (ht : t ≤ 600) (S : LSt D dA q qm qo s.heap w u o H locs) (hi : i + 4 < L) (hl : lv_has ls 7 [(0, .ref bb), (1, .ref (q 0)), (2, .ref (qm 0)), (3, .ref qo), (4, .int (nI i))]) (hf : cells + 4 ≤ room_1.cells ∧ slots + 24 ≤ room_1.slots) (kk : NX p l e s m below meth c bb D dA q qm qo t i cells slots) : W p l e room_1 s m #[Value.ref bb] below meth c H locs cells slots (lw_Z below #[Value.ref bb] s) (F0 m 403 ls []) := by
  obtain ⟨⟨hx, hb, hr, hml, hown, hts, hX, hbl, hlocks, hgv⟩, hfl, hL, C⟩ := X
  obtain ⟨res, w', z, u', e1, e2, hI', hA⟩ := q_pass hI (xs (i + 1))
  refine lv_aload_n hx hb dw_403 rfl (lv_at hl 1 rfl) ?_
  refine law_a 1 hx hb hX hbl S.2.2.2 hl (k0 := 0) (k4 := 4) rfl rfl (by omega) hL da_404 (by decide) ?_
  refine lv_aload_n hx hb dw_410 rfl (lv_at hl 3 rfl) ?_
  refine law_h (av := [.ref (q 0), .int (xs (i + 1)), .ref qo]) lw_122 hx hb hml C S (c_L_pass l hfl D dA q qo (xs (i + 1)) w w' o res e1 (fun k hk => by have h9 := hA.1 k hk; simp at h9; exact h9)) rfl hl.1 rfl (by decide) dw_411 ⟨(Nat.le_of_ble_eq_true rfl), (Nat.le_of_ble_eq_true rfl)⟩ hf (fun H locs S => ?_)
  refine lv_istore (lv' := [(5, .int (cdX [1, 2] res)), (0, .ref bb), (1, .ref (q 0)), (2, .ref (qm 0)), (3, .ref qo), (4, .int (nI i))]) hx hb dw_414 hl (by decide) rfl (fun ls hl => ?_)
  refine lv_aload_n hx hb dw_416 rfl (lv_at hl 3 rfl) ?_
  refine law_a 1 hx hb hX hbl S.2.2.2 hl (k0 := 1) (k4 := 5) rfl rfl (by omega) hL da_417 (by decide) ?_
  refine law_m (rm := RM_m_pass) (As := [.int (xs (i + 1))]) lm_124 hx hb hml C S (c_m_pass l D dA qm (xs (i + 1)) u u' z e2) rfl rfl ⟨(Nat.le_of_ble_eq_true rfl), (Nat.le_of_ble_eq_true rfl)⟩ rfl hl.1 rfl (by decide) dw_423 ⟨by omega, by omega⟩ (fun H locs S => ?_)
  refine lv_istore (lv' := [(6, .int z), (5, .int (cdX [1, 2] res)), (0, .ref bb), (1, .ref (q 0)), (2, .ref (qm 0)), (3, .ref qo), (4, .int (nI i))]) hx hb dw_426 hl (by decide) rfl (fun ls hl => ?_)
  exact law_t dt_428 (by decide) hx hb hml C S hl hA.2.1 (hA.o (by decide) o) ⟨(Nat.le_of_ble_eq_true rfl), (Nat.le_of_ble_eq_true rfl)⟩ ⟨by omega, by omega⟩ (fun H locs S => kk w' u' _ H locs ls hI' S (lv_sub hl [2, 3, 4, 5, 6] rfl))
set_option maxHeartbeats 4000000 in
set_option maxRecDepth 20000 in
theorem case_4 (X : LX p s m meth c bb L xs l D dA q qm qo) (hI : Inv t w u) (ht : t ≤ 600) (S : LSt D dA q qm qo s.heap w u o H locs) (hi : i + 4 < L) (hl : lv_has ls 7 [(0, .ref bb), (1, .ref (q 0)), (2, .ref (qm 0)), (3, .ref qo), (4, .int (nI i))]) (hf : cells + 4 ≤ room_1.cells ∧ slots + 24 ≤ room_1.slots) (kk : NX p l e s m below meth c bb D dA q qm qo t i cells slots) : W p l e room_1 s m #[Value.ref bb] below meth c H locs cells slots (lw_Z below #[Value.ref bb] s) (F0 m 459 ls []) := by
  obtain ⟨⟨hx, hb, hr, hml, hown, hts, hX, hbl, hlocks, hgv⟩, hfl, hL, C⟩ := X
  obtain ⟨x0, hx0, ex0⟩ : ∃ y0, y0 < 65536 ∧ ((xs (i + 1)).toUInt32 % 65536).toInt32 = nI y0 := ⟨_, Nat.mod_lt _ (by omega), pk_char _⟩
  obtain ⟨res, w', z, u', e1, e2, hI', hA⟩ := q_type hI hx0
  refine lv_aload_n hx hb dw_459 rfl (lv_at hl 1 rfl) ?_
  refine law_a 1 hx hb hX hbl S.2.2.2 hl (k0 := 0) (k4 := 4) rfl rfl (by omega) hL da_460 (by decide) ?_
  refine lv_i2c hx hb dw_466 ex0 ?_
  refine lv_aload_n hx hb dw_467 rfl (lv_at hl 3 rfl) ?_
  refine law_h (av := [.ref (q 0), .int (nI x0), .ref qo]) lw_125 hx hb hml C S (c_L_type l hfl D dA q qo (nI x0) w w' o res e1 (fun k hk => by have h9 := hA.1 k hk; simp at h9; exact h9)) rfl hl.1 rfl (by decide) dw_468 ⟨(Nat.le_of_ble_eq_true rfl), (Nat.le_of_ble_eq_true rfl)⟩ hf (fun H locs S => ?_)
  refine lv_istore (lv' := [(5, .int (cdX [1, 2] res)), (0, .ref bb), (1, .ref (q 0)), (2, .ref (qm 0)), (3, .ref qo), (4, .int (nI i))]) hx hb dw_471 hl (by decide) rfl (fun ls hl => ?_)
  refine lv_aload_n hx hb dw_473 rfl (lv_at hl 3 rfl) ?_
  refine law_a 1 hx hb hX hbl S.2.2.2 hl (k0 := 1) (k4 := 5) rfl rfl (by omega) hL da_474 (by decide) ?_
  refine lv_i2c hx hb dw_480 ex0 ?_
  refine law_m (rm := RM_m_type) (As := [.int (nI x0)]) lm_128 hx hb hml C S (c_m_type l D dA qm (nI x0) u u' z e2) rfl rfl ⟨(Nat.le_of_ble_eq_true rfl), (Nat.le_of_ble_eq_true rfl)⟩ rfl hl.1 rfl (by decide) dw_481 ⟨by omega, by omega⟩ (fun H locs S => ?_)
  refine lv_istore (lv' := [(6, .int z), (5, .int (cdX [1, 2] res)), (0, .ref bb), (1, .ref (q 0)), (2, .ref (qm 0)), (3, .ref qo), (4, .int (nI i))]) hx hb dw_484 hl (by decide) rfl (fun ls hl => ?_)
  exact law_t dt_486 (by decide) hx hb hml C S hl hA.2.1 (hA.o (by decide) o) ⟨(Nat.le_of_ble_eq_true rfl), (Nat.le_of_ble_eq_true rfl)⟩ ⟨by omega, by omega⟩ (fun H locs S => kk w' u' _ H locs ls hI' S (lv_sub hl [2, 3, 4, 5, 6] rfl))
set_option maxHeartbeats 4000000 in
set_option maxRecDepth 20000 in
theorem case_5 (X : LX p s m meth c bb L xs l D dA q qm qo) (hI : Inv t w u) (ht : t ≤ 600) (S : LSt D dA q qm qo s.heap w u o H locs) (hi : i + 4 < L) (hl : lv_has ls 7 [(0, .ref bb), (1, .ref (q 0)), (2, .ref (qm 0)), (3, .ref qo), (4, .int (nI i))]) (hf : cells + 4 ≤ room_1.cells ∧ slots + 24 ≤ room_1.slots) (kk : NX p l e s m below meth c bb D dA q qm qo t i cells slots) : W p l e room_1 s m #[Value.ref bb] below meth c H locs cells slots (lw_Z below #[Value.ref bb] s) (F0 m 517 ls []) := by
  obtain ⟨⟨hx, hb, hr, hml, hown, hts, hX, hbl, hlocks, hgv⟩, hfl, hL, C⟩ := X
  obtain ⟨z, w', u', e1, e2, hI'⟩ := q_wipe hI
  refine lv_aload_n hx hb dw_517 rfl (lv_at hl 1 rfl) ?_
  refine law_c (rm := RM_f_Ballotscript_wipe) (As := []) lm_129 hx hb hml C S (c_f_Ballotscript_wipe l D dA q w w' z e1) rfl rfl ⟨(Nat.le_of_ble_eq_true rfl), (Nat.le_of_ble_eq_true rfl)⟩ rfl hl.1 rfl (by decide) dw_518 ⟨by omega, by omega⟩ (fun H locs S => ?_)
  refine lv_aload_n hx hb dw_521 rfl (lv_at hl 2 rfl) ?_
  refine law_m (rm := RM_m_wipe) (As := []) lm_132 hx hb hml C S (c_m_wipe l D dA qm u u' z e2) rfl rfl ⟨(Nat.le_of_ble_eq_true rfl), (Nat.le_of_ble_eq_true rfl)⟩ rfl hl.1 rfl (Nat.le_of_ble_eq_true rfl) dw_522 ⟨by omega, by omega⟩ (fun H locs S => ?_)
  refine lv_icmp_eq (tgt := 1820) hx hb dw_525 (by decide) (fun _ => ?_) (fun g => absurd rfl g)
  refine W.widen (k := cells + 4) (n := slots + 24) (by omega) (by omega) ?_
  exact kk w' u' _ H locs ls hI' S hl
end CASES0

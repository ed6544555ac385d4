/-! the law: a call of each, cases 6 to 11 -/
set_option maxRecDepth 100000 in
set_option maxHeartbeats 4000000 in
theorem law_c6 {p : Program} {l : Launch} {e : Env} {s : State} {m : MethodId} {args : Array Value} {below : List Frame} {meth : Method} {c : Code} {D : va_G} {ca : Nat → ClassId} {A : Nat → Prop} {Q : State → Prop} {cells slots : Nat} (X : Fx p s m args meth c D ca A 4 cL_law RL) (hcs : cells + 0 ≤ room_1.cells ∧ slots + 0 ≤ room_1.slots) {b LN : Nat} {xs : Nat → Int32} (hX : va_X b LN xs s s.heap) (hbl : b < s.heap.size) (hbA : ¬ A b) (hLN : LN ≤ 2048) {y : Int} (hy0 : 0 ≤ y) (hy4 : y + 4 ≤ LN) {L : List Nat} {M : Mem} {μ : Nat → Nat} {Sg : Int → Int → Nat} {S : AS} {a1 a2 : Nat} (h : LI ca L M μ Sg S a1 a2) (kk : ∀ (M2 : Mem) (Sg2 : Int → Int → Nat) (S2 : AS), LI ca L M2 μ Sg2 S2 a1 a2 → G p l e room_1 s m args below meth c D A 4 Q cells slots L M2 712 [(0, .ref b), (1, .ref a1), (2, .ref a2), (3, .int (iI y))] []) : G p l e room_1 s m args below meth c D A 4 Q cells slots L M 304 [(0, .ref b), (1, .ref a1), (2, .ref a2), (3, .int (iI y))] [] := by
  obtain ⟨g, be, sa, iz, pa, len, st⟩ := S
  obtain ⟨hμ, rfl, rfl, hMd, hSB, hW, hiz, hsep⟩ := h
  obtain ⟨q, sp0, tr0, rd0, hq00, hq10, -⟩ := id hMd
  dsimp only at hq00 hq10
  subst hq00 hq10
  obtain ⟨hin5, fs5, hob5⟩ := hSB.obj
  have hl0 : 0 ≤ q 0 ∧ q 0 ≤ 60 := hW.2.1
  have hs0 : 0 ≤ q 1 ∧ q 1 ≤ 6 := hW.2.2.1
  refine g_aload_n X 1 rfl dL_law_304 rfl ?_
  refine g_callV X (ct_X5_reset l Sg g be sa iz pa (q 0) (q 1)) (As := []) (rest := []) cl_X5 rfl ca_X5_reset rfl wm_L_41 wi_X5_reset ws_X5_reset wc_X5_reset w0_X5 ⟨by decide, by decide⟩ hin5 hob5 (by decide) hcs rfl dL_law_305 rfl ⟨rfl, hSB, hW⟩ (fun r1 L9 M1 hq => ?_)
  obtain ⟨rfl, rfl, hSo⟩ := hq
  obtain ⟨Sg2, hSB2, hSg2, hMd1, hsep2⟩ := hSo.sep hsep hMd
  obtain ⟨q2, sp, tr, rd, hq0, hq1, m0, m1, m2, m3, m4, m5, m6, m7, m8⟩ := hMd1
  have e0 : q2 0 = q 0 := hq0
  have e1 : q2 1 = q 1 := hq1
  refine g_st (st' := [.int (iI (anReset (g, be, sa, iz, pa, q 0, q 1)))]) rfl ?_
  refine g_aload_n X 2 rfl dL_law_308 rfl ?_
  refine g_callV X (ct_X6_reset l μ q2 g sp tr be sa iz rd pa) (As := []) (rest := [.int (iI (anReset (g, be, sa, iz, pa, q 0, q 1)))]) cl_X6 rfl ca_X6_reset rfl wm_L_44 wi_X6_reset ws_X6_reset wc_X6_reset w0_X6 ⟨by decide, by decide⟩ (hμ.1 0 (by decide)) m0 (Nat.le_of_ble_eq_true rfl) hcs rfl dL_law_309 rfl ⟨rfl, hμ, m0, m1, m2, m3, m4, m5, m6, m7, m8, hW.1.1, by omega, by omega⟩ (fun r2 L9 M2 hq => ?_)
  obtain ⟨rfl, rfl, hMd2, hfr2⟩ := hq
  rw [e0, e1] at hMd2
  refine g_st (st' := [.int (iI (anReset (g, be, sa, iz, pa, q2 0, q2 1))), .int (iI (anReset (g, be, sa, iz, pa, q 0, q 1)))]) rfl ?_
  try rw [e0, e1]
  refine g_icmp_eqv X (tgt := 712) dL_law_312 (by decide) ?_
  exact kk M2 Sg2 (opReset (g, be, sa, iz, pa, q 0, q 1)) ⟨hμ, rfl, hSg2, hMd2, hSB2.kept (fun s k hi => hfr2 _ (fun i hi2 => (hsep2 i s k hi2 hi).symm)), reset_wf hW, iz_reset hiz, hsep2⟩
set_option maxRecDepth 100000 in
set_option maxHeartbeats 4000000 in
theorem law_c7 {p : Program} {l : Launch} {e : Env} {s : State} {m : MethodId} {args : Array Value} {below : List Frame} {meth : Method} {c : Code} {D : va_G} {ca : Nat → ClassId} {A : Nat → Prop} {Q : State → Prop} {cells slots : Nat} (X : Fx p s m args meth c D ca A 4 cL_law RL) (hcs : cells + 0 ≤ room_1.cells ∧ slots + 0 ≤ room_1.slots) {b LN : Nat} {xs : Nat → Int32} (hX : va_X b LN xs s s.heap) (hbl : b < s.heap.size) (hbA : ¬ A b) (hLN : LN ≤ 2048) {y : Int} (hy0 : 0 ≤ y) (hy4 : y + 4 ≤ LN) {L : List Nat} {M : Mem} {μ : Nat → Nat} {Sg : Int → Int → Nat} {S : AS} {a1 a2 : Nat} (h : LI ca L M μ Sg S a1 a2) (kk : ∀ (M2 : Mem) (Sg2 : Int → Int → Nat) (S2 : AS), LI ca L M2 μ Sg2 S2 a1 a2 → G p l e room_1 s m args below meth c D A 4 Q cells slots L M2 712 [(0, .ref b), (1, .ref a1), (2, .ref a2), (3, .int (iI y))] []) : G p l e room_1 s m args below meth c D A 4 Q cells slots L M 317 [(0, .ref b), (1, .ref a1), (2, .ref a2), (3, .int (iI y))] [] := by
  obtain ⟨g, be, sa, iz, pa, len, st⟩ := S
  obtain ⟨hμ, rfl, rfl, hMd, hSB, hW, hiz, hsep⟩ := h
  obtain ⟨q, sp0, tr0, rd0, hq00, hq10, -⟩ := id hMd
  dsimp only at hq00 hq10
  subst hq00 hq10
  obtain ⟨hin5, fs5, hob5⟩ := hSB.obj
  have hl0 : 0 ≤ q 0 ∧ q 0 ≤ 60 := hW.2.1
  have hs0 : 0 ≤ q 1 ∧ q 1 ≤ 6 := hW.2.2.1
  refine g_aload_n X 1 rfl dL_law_317 rfl ?_
  refine g_aload_n X 0 rfl dL_law_318 rfl ?_
  refine g_iload_n X 3 rfl dL_law_319 rfl ?_
  refine g_iconst X (z := 1) dL_law_320 rfl ?_
  refine g_iadd X dL_law_321 rfl ?_
  refine g_sld X hX hbl hbA hLN ⟨by omega, by omega⟩ dL_law_322 rfl ?_
  refine g_callV X (ct_X5_bankOf l Sg g be sa iz pa (q 0) (q 1) (sx xs (y + 1))) (As := [.int (iI (sx xs (y + 1)))]) (rest := []) cl_X5 rfl ca_X5_bankOf rfl wm_L_45 wi_X5_bankOf ws_X5_bankOf wc_X5_bankOf w0_X5 ⟨by decide, by decide⟩ hin5 hob5 (by decide) hcs rfl dL_law_323 rfl ⟨rfl, hSB, hW, (sx_rng _ _)⟩ (fun r1 L9 M1 hq => ?_)
  obtain ⟨rfl, rfl, hSo⟩ := hq
  obtain ⟨Sg2, hSB2, hSg2, hMd1, hsep2⟩ := hSo.sep hsep hMd
  obtain ⟨q2, sp, tr, rd, hq0, hq1, m0, m1, m2, m3, m4, m5, m6, m7, m8⟩ := hMd1
  have e0 : q2 0 = q 0 := hq0
  have e1 : q2 1 = q 1 := hq1
  refine g_st (st' := [.int (iI (anBankOf (g, be, sa, iz, pa, q 0, q 1) (sx xs (y + 1))))]) rfl ?_
  refine g_aload_n X 2 rfl dL_law_326 rfl ?_
  refine g_aload_n X 0 rfl dL_law_327 rfl ?_
  refine g_iload_n X 3 rfl dL_law_328 rfl ?_
  refine g_iconst X (z := 1) dL_law_329 rfl ?_
  refine g_iadd X dL_law_330 rfl ?_
  refine g_sld X hX hbl hbA hLN ⟨by omega, by omega⟩ dL_law_331 rfl ?_
  refine g_callV X (ct_X6_bankOf l μ q2 g sp tr be sa iz rd pa (sx xs (y + 1))) (As := [.int (iI (sx xs (y + 1)))]) (rest := [.int (iI (anBankOf (g, be, sa, iz, pa, q 0, q 1) (sx xs (y + 1))))]) cl_X6 rfl ca_X6_bankOf rfl wm_L_48 wi_X6_bankOf ws_X6_bankOf wc_X6_bankOf w0_X6 ⟨by decide, by decide⟩ (hμ.1 0 (by decide)) m0 (Nat.le_of_ble_eq_true rfl) hcs rfl dL_law_332 rfl ⟨rfl, hμ, m0, m1, m2, m3, m4, m5, m6, m7, m8, hW.1.1, by omega, by omega, (sx_rng _ _)⟩ (fun r2 L9 M2 hq => ?_)
  obtain ⟨rfl, rfl, hMd2, hfr2⟩ := hq
  rw [e0, e1] at hMd2
  refine g_st (st' := [.int (iI (anBankOf (g, be, sa, iz, pa, q2 0, q2 1) (sx xs (y + 1)))), .int (iI (anBankOf (g, be, sa, iz, pa, q 0, q 1) (sx xs (y + 1))))]) rfl ?_
  try rw [e0, e1]
  refine g_icmp_eqv X (tgt := 712) dL_law_335 (by decide) ?_
  exact kk M2 Sg2 (g, be, sa, iz, pa, q 0, q 1) ⟨hμ, rfl, hSg2, hMd2, hSB2.kept (fun s k hi => hfr2 _ (fun i hi2 => (hsep2 i s k hi2 hi).symm)), hW, hiz, hsep2⟩
set_option maxRecDepth 100000 in
set_option maxHeartbeats 4000000 in
theorem law_c8 {p : Program} {l : Launch} {e : Env} {s : State} {m : MethodId} {args : Array Value} {below : List Frame} {meth : Method} {c : Code} {D : va_G} {ca : Nat → ClassId} {A : Nat → Prop} {Q : State → Prop} {cells slots : Nat} (X : Fx p s m args meth c D ca A 4 cL_law RL) (hcs : cells + 0 ≤ room_1.cells ∧ slots + 0 ≤ room_1.slots) {b LN : Nat} {xs : Nat → Int32} (hX : va_X b LN xs s s.heap) (hbl : b < s.heap.size) (hbA : ¬ A b) (hLN : LN ≤ 2048) {y : Int} (hy0 : 0 ≤ y) (hy4 : y + 4 ≤ LN) {L : List Nat} {M : Mem} {μ : Nat → Nat} {Sg : Int → Int → Nat} {S : AS} {a1 a2 : Nat} (h : LI ca L M μ Sg S a1 a2) (kk : ∀ (M2 : Mem) (Sg2 : Int → Int → Nat) (S2 : AS), LI ca L M2 μ Sg2 S2 a1 a2 → G p l e room_1 s m args below meth c D A 4 Q cells slots L M2 712 [(0, .ref b), (1, .ref a1), (2, .ref a2), (3, .int (iI y))] []) : G p l e room_1 s m args below meth c D A 4 Q cells slots L M 340 [(0, .ref b), (1, .ref a1), (2, .ref a2), (3, .int (iI y))] [] := by
  obtain ⟨g, be, sa, iz, pa, len, st⟩ := S
  obtain ⟨hμ, rfl, rfl, hMd, hSB, hW, hiz, hsep⟩ := h
  obtain ⟨q, sp0, tr0, rd0, hq00, hq10, -⟩ := id hMd
  dsimp only at hq00 hq10
  subst hq00 hq10
  obtain ⟨hin5, fs5, hob5⟩ := hSB.obj
  have hl0 : 0 ≤ q 0 ∧ q 0 ≤ 60 := hW.2.1
  have hs0 : 0 ≤ q 1 ∧ q 1 ≤ 6 := hW.2.2.1
  refine g_aload_n X 1 rfl dL_law_340 rfl ?_
  refine g_aload_n X 0 rfl dL_law_341 rfl ?_
  refine g_iload_n X 3 rfl dL_law_342 rfl ?_
  refine g_iconst X (z := 1) dL_law_343 rfl ?_
  refine g_iadd X dL_law_344 rfl ?_
  refine g_sld X hX hbl hbA hLN ⟨by omega, by omega⟩ dL_law_345 rfl ?_
  refine g_aload_n X 0 rfl dL_law_346 rfl ?_
  refine g_iload_n X 3 rfl dL_law_347 rfl ?_
  refine g_iconst X (z := 2) dL_law_348 rfl ?_
  refine g_iadd X dL_law_349 rfl ?_
  refine g_sld X hX hbl hbA hLN ⟨by omega, by omega⟩ dL_law_350 rfl ?_
  refine g_callV X (ct_X5_stream l Sg g be sa iz pa (q 0) (q 1) (sx xs (y + 1)) (sx xs (y + 2))) (As := [.int (iI (sx xs (y + 1))), .int (iI (sx xs (y + 2)))]) (rest := []) cl_X5 rfl ca_X5_stream rfl wm_L_49 wi_X5_stream ws_X5_stream wc_X5_stream w0_X5 ⟨by decide, by decide⟩ hin5 hob5 (by decide) hcs rfl dL_law_351 rfl ⟨rfl, hSB, hW, (sx_rng _ _), (sx_rng _ _)⟩ (fun r1 L9 M1 hq => ?_)
  obtain ⟨rfl, rfl, hSo⟩ := hq
  obtain ⟨Sg2, hSB2, hSg2, hMd1, hsep2⟩ := hSo.sep hsep hMd
  obtain ⟨q2, sp, tr, rd, hq0, hq1, m0, m1, m2, m3, m4, m5, m6, m7, m8⟩ := hMd1
  have e0 : q2 0 = q 0 := hq0
  have e1 : q2 1 = q 1 := hq1
  refine g_st (st' := [.int (iI (anStream (g, be, sa, iz, pa, q 0, q 1) (sx xs (y + 1)) (sx xs (y + 2))))]) rfl ?_
  refine g_aload_n X 2 rfl dL_law_354 rfl ?_
  refine g_aload_n X 0 rfl dL_law_355 rfl ?_
  refine g_iload_n X 3 rfl dL_law_356 rfl ?_
  refine g_iconst X (z := 1) dL_law_357 rfl ?_
  refine g_iadd X dL_law_358 rfl ?_
  refine g_sld X hX hbl hbA hLN ⟨by omega, by omega⟩ dL_law_359 rfl ?_
  refine g_aload_n X 0 rfl dL_law_360 rfl ?_
  refine g_iload_n X 3 rfl dL_law_361 rfl ?_
  refine g_iconst X (z := 2) dL_law_362 rfl ?_
  refine g_iadd X dL_law_363 rfl ?_
  refine g_sld X hX hbl hbA hLN ⟨by omega, by omega⟩ dL_law_364 rfl ?_
  refine g_callV X (ct_X6_stream l μ q2 g sp tr be sa iz rd pa (sx xs (y + 1)) (sx xs (y + 2))) (As := [.int (iI (sx xs (y + 1))), .int (iI (sx xs (y + 2)))]) (rest := [.int (iI (anStream (g, be, sa, iz, pa, q 0, q 1) (sx xs (y + 1)) (sx xs (y + 2))))]) cl_X6 rfl ca_X6_stream rfl wm_L_52 wi_X6_stream ws_X6_stream wc_X6_stream w0_X6 ⟨by decide, by decide⟩ (hμ.1 0 (by decide)) m0 (Nat.le_of_ble_eq_true rfl) hcs rfl dL_law_365 rfl ⟨rfl, hμ, m0, m1, m2, m3, m4, m5, m6, m7, m8, hW.1.1, by omega, by omega, (sx_rng _ _), (sx_rng _ _)⟩ (fun r2 L9 M2 hq => ?_)
  obtain ⟨rfl, rfl, hMd2, hfr2⟩ := hq
  rw [e0, e1] at hMd2
  refine g_st (st' := [.int (iI (anStream (g, be, sa, iz, pa, q2 0, q2 1) (sx xs (y + 1)) (sx xs (y + 2)))), .int (iI (anStream (g, be, sa, iz, pa, q 0, q 1) (sx xs (y + 1)) (sx xs (y + 2))))]) rfl ?_
  try rw [e0, e1]
  refine g_icmp_eqv X (tgt := 712) dL_law_368 (by decide) ?_
  exact kk M2 Sg2 (g, be, sa, iz, pa, q 0, q 1) ⟨hμ, rfl, hSg2, hMd2, hSB2.kept (fun s k hi => hfr2 _ (fun i hi2 => (hsep2 i s k hi2 hi).symm)), hW, hiz, hsep2⟩
set_option maxRecDepth 100000 in
set_option maxHeartbeats 4000000 in
theorem law_c9 {p : Program} {l : Launch} {e : Env} {s : State} {m : MethodId} {args : Array Value} {below : List Frame} {meth : Method} {c : Code} {D : va_G} {ca : Nat → ClassId} {A : Nat → Prop} {Q : State → Prop} {cells slots : Nat} (X : Fx p s m args meth c D ca A 4 cL_law RL) (hcs : cells + 0 ≤ room_1.cells ∧ slots + 0 ≤ room_1.slots) {b LN : Nat} {xs : Nat → Int32} (hX : va_X b LN xs s s.heap) (hbl : b < s.heap.size) (hbA : ¬ A b) (hLN : LN ≤ 2048) {y : Int} (hy0 : 0 ≤ y) (hy4 : y + 4 ≤ LN) {L : List Nat} {M : Mem} {μ : Nat → Nat} {Sg : Int → Int → Nat} {S : AS} {a1 a2 : Nat} (h : LI ca L M μ Sg S a1 a2) (kk : ∀ (M2 : Mem) (Sg2 : Int → Int → Nat) (S2 : AS), LI ca L M2 μ Sg2 S2 a1 a2 → G p l e room_1 s m args below meth c D A 4 Q cells slots L M2 712 [(0, .ref b), (1, .ref a1), (2, .ref a2), (3, .int (iI y))] []) : G p l e room_1 s m args below meth c D A 4 Q cells slots L M 373 [(0, .ref b), (1, .ref a1), (2, .ref a2), (3, .int (iI y))] [] := by
  obtain ⟨g, be, sa, iz, pa, len, st⟩ := S
  obtain ⟨hμ, rfl, rfl, hMd, hSB, hW, hiz, hsep⟩ := h
  obtain ⟨q, sp0, tr0, rd0, hq00, hq10, -⟩ := id hMd
  dsimp only at hq00 hq10
  subst hq00 hq10
  obtain ⟨hin5, fs5, hob5⟩ := hSB.obj
  have hl0 : 0 ≤ q 0 ∧ q 0 ≤ 60 := hW.2.1
  have hs0 : 0 ≤ q 1 ∧ q 1 ≤ 6 := hW.2.2.1
  refine g_aload_n X 1 rfl dL_law_373 rfl ?_
  refine g_aload_n X 0 rfl dL_law_374 rfl ?_
  refine g_iload_n X 3 rfl dL_law_375 rfl ?_
  refine g_iconst X (z := 1) dL_law_376 rfl ?_
  refine g_iadd X dL_law_377 rfl ?_
  refine g_sld X hX hbl hbA hLN ⟨by omega, by omega⟩ dL_law_378 rfl ?_
  refine g_aload_n X 0 rfl dL_law_379 rfl ?_
  refine g_iload_n X 3 rfl dL_law_380 rfl ?_
  refine g_iconst X (z := 2) dL_law_381 rfl ?_
  refine g_iadd X dL_law_382 rfl ?_
  refine g_sld X hX hbl hbA hLN ⟨by omega, by omega⟩ dL_law_383 rfl ?_
  refine g_callV X (ct_X5_bank l Sg g be sa iz pa (q 0) (q 1) (sx xs (y + 1)) (sx xs (y + 2))) (As := [.int (iI (sx xs (y + 1))), .int (iI (sx xs (y + 2)))]) (rest := []) cl_X5 rfl ca_X5_bank rfl wm_L_53 wi_X5_bank ws_X5_bank wc_X5_bank w0_X5 ⟨by decide, by decide⟩ hin5 hob5 (by decide) hcs rfl dL_law_384 rfl ⟨rfl, hSB, hW, (sx_rng _ _), (sx_rng _ _)⟩ (fun r1 L9 M1 hq => ?_)
  obtain ⟨rfl, rfl, hSo⟩ := hq
  obtain ⟨Sg2, hSB2, hSg2, hMd1, hsep2⟩ := hSo.sep hsep hMd
  obtain ⟨q2, sp, tr, rd, hq0, hq1, m0, m1, m2, m3, m4, m5, m6, m7, m8⟩ := hMd1
  have e0 : q2 0 = q 0 := hq0
  have e1 : q2 1 = q 1 := hq1
  refine g_st (st' := [.int (iI (anBank (g, be, sa, iz, pa, q 0, q 1) (sx xs (y + 1)) (sx xs (y + 2))))]) rfl ?_
  refine g_aload_n X 2 rfl dL_law_387 rfl ?_
  refine g_aload_n X 0 rfl dL_law_388 rfl ?_
  refine g_iload_n X 3 rfl dL_law_389 rfl ?_
  refine g_iconst X (z := 1) dL_law_390 rfl ?_
  refine g_iadd X dL_law_391 rfl ?_
  refine g_sld X hX hbl hbA hLN ⟨by omega, by omega⟩ dL_law_392 rfl ?_
  refine g_aload_n X 0 rfl dL_law_393 rfl ?_
  refine g_iload_n X 3 rfl dL_law_394 rfl ?_
  refine g_iconst X (z := 2) dL_law_395 rfl ?_
  refine g_iadd X dL_law_396 rfl ?_
  refine g_sld X hX hbl hbA hLN ⟨by omega, by omega⟩ dL_law_397 rfl ?_
  refine g_callV X (ct_X6_bank l μ q2 g sp tr be sa iz rd pa (sx xs (y + 1)) (sx xs (y + 2))) (As := [.int (iI (sx xs (y + 1))), .int (iI (sx xs (y + 2)))]) (rest := [.int (iI (anBank (g, be, sa, iz, pa, q 0, q 1) (sx xs (y + 1)) (sx xs (y + 2))))]) cl_X6 rfl ca_X6_bank rfl wm_L_56 wi_X6_bank ws_X6_bank wc_X6_bank w0_X6 ⟨by decide, by decide⟩ (hμ.1 0 (by decide)) m0 (Nat.le_of_ble_eq_true rfl) hcs rfl dL_law_398 rfl ⟨rfl, hμ, m0, m1, m2, m3, m4, m5, m6, m7, m8, hW.1.1, by omega, by omega, (sx_rng _ _), (sx_rng _ _)⟩ (fun r2 L9 M2 hq => ?_)
  obtain ⟨rfl, rfl, hMd2, hfr2⟩ := hq
  rw [e0, e1] at hMd2
  refine g_st (st' := [.int (iI (anBank (g, be, sa, iz, pa, q2 0, q2 1) (sx xs (y + 1)) (sx xs (y + 2)))), .int (iI (anBank (g, be, sa, iz, pa, q 0, q 1) (sx xs (y + 1)) (sx xs (y + 2))))]) rfl ?_
  try rw [e0, e1]
  refine g_icmp_eqv X (tgt := 712) dL_law_401 (by decide) ?_
  exact kk M2 Sg2 (g, be, sa, iz, pa, q 0, q 1) ⟨hμ, rfl, hSg2, hMd2, hSB2.kept (fun s k hi => hfr2 _ (fun i hi2 => (hsep2 i s k hi2 hi).symm)), hW, hiz, hsep2⟩
set_option maxRecDepth 100000 in
set_option maxHeartbeats 4000000 in
theorem law_c10 {p : Program} {l : Launch} {e : Env} {s : State} {m : MethodId} {args : Array Value} {below : List Frame} {meth : Method} {c : Code} {D : va_G} {ca : Nat → ClassId} {A : Nat → Prop} {Q : State → Prop} {cells slots : Nat} (X : Fx p s m args meth c D ca A 4 cL_law RL) (hcs : cells + 0 ≤ room_1.cells ∧ slots + 0 ≤ room_1.slots) {b LN : Nat} {xs : Nat → Int32} (hX : va_X b LN xs s s.heap) (hbl : b < s.heap.size) (hbA : ¬ A b) (hLN : LN ≤ 2048) {y : Int} (hy0 : 0 ≤ y) (hy4 : y + 4 ≤ LN) {L : List Nat} {M : Mem} {μ : Nat → Nat} {Sg : Int → Int → Nat} {S : AS} {a1 a2 : Nat} (h : LI ca L M μ Sg S a1 a2) (kk : ∀ (M2 : Mem) (Sg2 : Int → Int → Nat) (S2 : AS), LI ca L M2 μ Sg2 S2 a1 a2 → G p l e room_1 s m args below meth c D A 4 Q cells slots L M2 712 [(0, .ref b), (1, .ref a1), (2, .ref a2), (3, .int (iI y))] []) : G p l e room_1 s m args below meth c D A 4 Q cells slots L M 406 [(0, .ref b), (1, .ref a1), (2, .ref a2), (3, .int (iI y))] [] := by
  obtain ⟨g, be, sa, iz, pa, len, st⟩ := S
  obtain ⟨hμ, rfl, rfl, hMd, hSB, hW, hiz, hsep⟩ := h
  obtain ⟨q, sp0, tr0, rd0, hq00, hq10, -⟩ := id hMd
  dsimp only at hq00 hq10
  subst hq00 hq10
  obtain ⟨hin5, fs5, hob5⟩ := hSB.obj
  have hl0 : 0 ≤ q 0 ∧ q 0 ≤ 60 := hW.2.1
  have hs0 : 0 ≤ q 1 ∧ q 1 ≤ 6 := hW.2.2.1
  refine g_aload_n X 1 rfl dL_law_406 rfl ?_
  refine g_aload_n X 0 rfl dL_law_407 rfl ?_
  refine g_iload_n X 3 rfl dL_law_408 rfl ?_
  refine g_iconst X (z := 1) dL_law_409 rfl ?_
  refine g_iadd X dL_law_410 rfl ?_
  refine g_sld X hX hbl hbA hLN ⟨by omega, by omega⟩ dL_law_411 rfl ?_
  refine g_callV X (ct_X5_count l Sg g be sa iz pa (q 0) (q 1) (sx xs (y + 1))) (As := [.int (iI (sx xs (y + 1)))]) (rest := []) cl_X5 rfl ca_X5_count rfl wm_L_57 wi_X5_count ws_X5_count wc_X5_count w0_X5 ⟨by decide, by decide⟩ hin5 hob5 (by decide) hcs rfl dL_law_412 rfl ⟨rfl, hSB, hW, (sx_rng _ _)⟩ (fun r1 L9 M1 hq => ?_)
  obtain ⟨rfl, rfl, hSo⟩ := hq
  obtain ⟨Sg2, hSB2, hSg2, hMd1, hsep2⟩ := hSo.sep hsep hMd
  obtain ⟨q2, sp, tr, rd, hq0, hq1, m0, m1, m2, m3, m4, m5, m6, m7, m8⟩ := hMd1
  have e0 : q2 0 = q 0 := hq0
  have e1 : q2 1 = q 1 := hq1
  refine g_st (st' := [.int (iI (anCount (g, be, sa, iz, pa, q 0, q 1) (sx xs (y + 1))))]) rfl ?_
  refine g_aload_n X 2 rfl dL_law_415 rfl ?_
  refine g_aload_n X 0 rfl dL_law_416 rfl ?_
  refine g_iload_n X 3 rfl dL_law_417 rfl ?_
  refine g_iconst X (z := 1) dL_law_418 rfl ?_
  refine g_iadd X dL_law_419 rfl ?_
  refine g_sld X hX hbl hbA hLN ⟨by omega, by omega⟩ dL_law_420 rfl ?_
  refine g_callV X (ct_X6_count l μ q2 g sp tr be sa iz rd pa (sx xs (y + 1))) (As := [.int (iI (sx xs (y + 1)))]) (rest := [.int (iI (anCount (g, be, sa, iz, pa, q 0, q 1) (sx xs (y + 1))))]) cl_X6 rfl ca_X6_count rfl wm_L_60 wi_X6_count ws_X6_count wc_X6_count w0_X6 ⟨by decide, by decide⟩ (hμ.1 0 (by decide)) m0 (Nat.le_of_ble_eq_true rfl) hcs rfl dL_law_421 rfl ⟨rfl, hμ, m0, m1, m2, m3, m4, m5, m6, m7, m8, hW.1.1, by omega, by omega, (sx_rng _ _)⟩ (fun r2 L9 M2 hq => ?_)
  obtain ⟨rfl, rfl, hMd2, hfr2⟩ := hq
  rw [e0, e1] at hMd2
  refine g_st (st' := [.int (iI (anCount (g, be, sa, iz, pa, q2 0, q2 1) (sx xs (y + 1)))), .int (iI (anCount (g, be, sa, iz, pa, q 0, q 1) (sx xs (y + 1))))]) rfl ?_
  try rw [e0, e1]
  refine g_icmp_eqv X (tgt := 712) dL_law_424 (by decide) ?_
  exact kk M2 Sg2 (g, be, sa, iz, pa, q 0, q 1) ⟨hμ, rfl, hSg2, hMd2, hSB2.kept (fun s k hi => hfr2 _ (fun i hi2 => (hsep2 i s k hi2 hi).symm)), hW, hiz, hsep2⟩
set_option maxRecDepth 100000 in
set_option maxHeartbeats 4000000 in
theorem law_c11 {p : Program} {l : Launch} {e : Env} {s : State} {m : MethodId} {args : Array Value} {below : List Frame} {meth : Method} {c : Code} {D : va_G} {ca : Nat → ClassId} {A : Nat → Prop} {Q : State → Prop} {cells slots : Nat} (X : Fx p s m args meth c D ca A 4 cL_law RL) (hcs : cells + 0 ≤ room_1.cells ∧ slots + 0 ≤ room_1.slots) {b LN : Nat} {xs : Nat → Int32} (hX : va_X b LN xs s s.heap) (hbl : b < s.heap.size) (hbA : ¬ A b) (hLN : LN ≤ 2048) {y : Int} (hy0 : 0 ≤ y) (hy4 : y + 4 ≤ LN) {L : List Nat} {M : Mem} {μ : Nat → Nat} {Sg : Int → Int → Nat} {S : AS} {a1 a2 : Nat} (h : LI ca L M μ Sg S a1 a2) (kk : ∀ (M2 : Mem) (Sg2 : Int → Int → Nat) (S2 : AS), LI ca L M2 μ Sg2 S2 a1 a2 → G p l e room_1 s m args below meth c D A 4 Q cells slots L M2 712 [(0, .ref b), (1, .ref a1), (2, .ref a2), (3, .int (iI y))] []) : G p l e room_1 s m args below meth c D A 4 Q cells slots L M 429 [(0, .ref b), (1, .ref a1), (2, .ref a2), (3, .int (iI y))] [] := by
  obtain ⟨g, be, sa, iz, pa, len, st⟩ := S
  obtain ⟨hμ, rfl, rfl, hMd, hSB, hW, hiz, hsep⟩ := h
  obtain ⟨q, sp0, tr0, rd0, hq00, hq10, -⟩ := id hMd
  dsimp only at hq00 hq10
  subst hq00 hq10
  obtain ⟨hin5, fs5, hob5⟩ := hSB.obj
  have hl0 : 0 ≤ q 0 ∧ q 0 ≤ 60 := hW.2.1
  have hs0 : 0 ≤ q 1 ∧ q 1 ≤ 6 := hW.2.2.1
  refine g_aload_n X 1 rfl dL_law_429 rfl ?_
  refine g_callV X (ct_X5_untilDone l Sg g be sa iz pa (q 0) (q 1)) (As := []) (rest := []) cl_X5 rfl ca_X5_untilDone rfl wm_L_61 wi_X5_untilDone ws_X5_untilDone wc_X5_untilDone w0_X5 ⟨by decide, by decide⟩ hin5 hob5 (by decide) hcs rfl dL_law_430 rfl ⟨rfl, hSB, hW⟩ (fun r1 L9 M1 hq => ?_)
  obtain ⟨rfl, rfl, hSo⟩ := hq
  obtain ⟨Sg2, hSB2, hSg2, hMd1, hsep2⟩ := hSo.sep hsep hMd
  obtain ⟨q2, sp, tr, rd, hq0, hq1, m0, m1, m2, m3, m4, m5, m6, m7, m8⟩ := hMd1
  have e0 : q2 0 = q 0 := hq0
  have e1 : q2 1 = q 1 := hq1
  refine g_st (st' := [.int (iI (roC 20000 g))]) rfl ?_
  refine g_aload_n X 2 rfl dL_law_433 rfl ?_
  refine g_callV X (ct_X6_untilDone l μ q2 g sp tr be sa iz rd pa) (As := []) (rest := [.int (iI (roC 20000 g))]) cl_X6 rfl ca_X6_untilDone rfl wm_L_64 wi_X6_untilDone ws_X6_untilDone wc_X6_untilDone w0_X6 ⟨by decide, by decide⟩ (hμ.1 0 (by decide)) m0 (Nat.le_of_ble_eq_true rfl) hcs rfl dL_law_434 rfl ⟨rfl, hμ, m0, m1, m2, m3, m4, m5, m6, m7, m8, hW.1.1, by omega, by omega, hW.1.2.2⟩ (fun r2 L9 M2 hq => ?_)
  obtain ⟨rfl, rfl, hMd2, hfr2⟩ := hq
  rw [e0, e1] at hMd2
  refine g_st (st' := [.int (iI (roC 20000 g)), .int (iI (roC 20000 g))]) rfl ?_
  try rw [e0, e1]
  refine g_icmp_eqv X (tgt := 712) dL_law_437 (by decide) ?_
  exact kk M2 Sg2 (g, be, sa, iz, pa, q 0, q 1) ⟨hμ, rfl, hSg2, hMd2, hSB2.kept (fun s k hi => hfr2 _ (fun i hi2 => (hsep2 i s k hi2 hi).symm)), hW, hiz, hsep2⟩

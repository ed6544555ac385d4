/-! the law: a call of each, cases 12 to 16 -/
set_option maxRecDepth 100000 in
set_option maxHeartbeats 4000000 in
theorem law_c12 {p : Program} {l : Launch} {e : Env} {s : State} {m : MethodId} {args : Array Value} {below : List Frame} {meth : Method} {c : Code} {D : va_G} {ca : Nat → ClassId} {A : Nat → Prop} {Q : State → Prop} {cells slots : Nat} (X : Fx p s m args meth c D ca A 4 cL_law RL) (hcs : cells + 0 ≤ room_1.cells ∧ slots + 0 ≤ room_1.slots) {b LN : Nat} {xs : Nat → Int32} (hX : va_X b LN xs s s.heap) (hbl : b < s.heap.size) (hbA : ¬ A b) (hLN : LN ≤ 2048) {y : Int} (hy0 : 0 ≤ y) (hy4 : y + 4 ≤ LN) {L : List Nat} {M : Mem} {μ : Nat → Nat} {Sg : Int → Int → Nat} {S : AS} {a1 a2 : Nat} (h : LI ca L M μ Sg S a1 a2) (kk : ∀ (M2 : Mem) (Sg2 : Int → Int → Nat) (S2 : AS), LI ca L M2 μ Sg2 S2 a1 a2 → G p l e room_1 s m args below meth c D A 4 Q cells slots L M2 712 [(0, .ref b), (1, .ref a1), (2, .ref a2), (3, .int (iI y))] []) : G p l e room_1 s m args below meth c D A 4 Q cells slots L M 442 [(0, .ref b), (1, .ref a1), (2, .ref a2), (3, .int (iI y))] [] := by
  obtain ⟨g, be, sa, iz, pa, len, st⟩ := S
  obtain ⟨hμ, rfl, rfl, hMd, hSB, hW, hiz, hsep⟩ := h
  obtain ⟨q, sp0, tr0, rd0, hq00, hq10, -⟩ := id hMd
  dsimp only at hq00 hq10
  subst hq00 hq10
  obtain ⟨hin5, fs5, hob5⟩ := hSB.obj
  have hl0 : 0 ≤ q 0 ∧ q 0 ≤ 60 := hW.2.1
  have hs0 : 0 ≤ q 1 ∧ q 1 ≤ 6 := hW.2.2.1
  refine g_aload_n X 1 rfl dL_law_442 rfl ?_
  refine g_aload_n X 0 rfl dL_law_443 rfl ?_
  refine g_iload_n X 3 rfl dL_law_444 rfl ?_
  refine g_iconst X (z := 1) dL_law_445 rfl ?_
  refine g_iadd X dL_law_446 rfl ?_
  refine g_sld X hX hbl hbA hLN ⟨by omega, by omega⟩ dL_law_447 rfl ?_
  refine g_aload_n X 0 rfl dL_law_448 rfl ?_
  refine g_iload_n X 3 rfl dL_law_449 rfl ?_
  refine g_iconst X (z := 2) dL_law_450 rfl ?_
  refine g_iadd X dL_law_451 rfl ?_
  refine g_sld X hX hbl hbA hLN ⟨by omega, by omega⟩ dL_law_452 rfl ?_
  refine g_callV X (ct_X5_alone l Sg g be sa iz pa (q 0) (q 1) (sx xs (y + 1)) (sx xs (y + 2))) (As := [.int (iI (sx xs (y + 1))), .int (iI (sx xs (y + 2)))]) (rest := []) cl_X5 rfl ca_X5_alone rfl wm_L_65 wi_X5_alone ws_X5_alone wc_X5_alone w0_X5 ⟨by decide, by decide⟩ hin5 hob5 (by decide) hcs rfl dL_law_453 rfl ⟨rfl, hSB, hW, (sx_rng _ _), (sx_rng _ _)⟩ (fun r1 L9 M1 hq => ?_)
  obtain ⟨rfl, rfl, hSo⟩ := hq
  obtain ⟨Sg2, hSB2, hSg2, hMd1, hsep2⟩ := hSo.sep hsep hMd
  obtain ⟨q2, sp, tr, rd, hq0, hq1, m0, m1, m2, m3, m4, m5, m6, m7, m8⟩ := hMd1
  have e0 : q2 0 = q 0 := hq0
  have e1 : q2 1 = q 1 := hq1
  refine g_st (st' := [.int (iI (anAlone (g, be, sa, iz, pa, q 0, q 1) (sx xs (y + 1)) (sx xs (y + 2))))]) rfl ?_
  refine g_aload_n X 2 rfl dL_law_456 rfl ?_
  refine g_aload_n X 0 rfl dL_law_457 rfl ?_
  refine g_iload_n X 3 rfl dL_law_458 rfl ?_
  refine g_iconst X (z := 1) dL_law_459 rfl ?_
  refine g_iadd X dL_law_460 rfl ?_
  refine g_sld X hX hbl hbA hLN ⟨by omega, by omega⟩ dL_law_461 rfl ?_
  refine g_aload_n X 0 rfl dL_law_462 rfl ?_
  refine g_iload_n X 3 rfl dL_law_463 rfl ?_
  refine g_iconst X (z := 2) dL_law_464 rfl ?_
  refine g_iadd X dL_law_465 rfl ?_
  refine g_sld X hX hbl hbA hLN ⟨by omega, by omega⟩ dL_law_466 rfl ?_
  refine g_callV X (ct_X6_alone l μ q2 g sp tr be sa iz rd pa (sx xs (y + 1)) (sx xs (y + 2))) (As := [.int (iI (sx xs (y + 1))), .int (iI (sx xs (y + 2)))]) (rest := [.int (iI (anAlone (g, be, sa, iz, pa, q 0, q 1) (sx xs (y + 1)) (sx xs (y + 2))))]) cl_X6 rfl ca_X6_alone rfl wm_L_68 wi_X6_alone ws_X6_alone wc_X6_alone w0_X6 ⟨by decide, by decide⟩ (hμ.1 0 (by decide)) m0 (Nat.le_of_ble_eq_true rfl) hcs rfl dL_law_467 rfl ⟨rfl, hμ, m0, m1, m2, m3, m4, m5, m6, m7, m8, hW.1.1, by omega, by omega, (sx_rng _ _), (sx_rng _ _)⟩ (fun r2 L9 M2 hq => ?_)
  obtain ⟨rfl, rfl, hMd2, hfr2⟩ := hq
  rw [e0, e1] at hMd2
  refine g_st (st' := [.int (iI (anAlone (g, be, sa, iz, pa, q2 0, q2 1) (sx xs (y + 1)) (sx xs (y + 2)))), .int (iI (anAlone (g, be, sa, iz, pa, q 0, q 1) (sx xs (y + 1)) (sx xs (y + 2))))]) rfl ?_
  try rw [e0, e1]
  refine g_icmp_eqv X (tgt := 712) dL_law_470 (by decide) ?_
  exact kk M2 Sg2 (g, be, sa, iz, pa, q 0, q 1) ⟨hμ, rfl, hSg2, hMd2, hSB2.kept (fun s k hi => hfr2 _ (fun i hi2 => (hsep2 i s k hi2 hi).symm)), hW, hiz, hsep2⟩
set_option maxRecDepth 100000 in
set_option maxHeartbeats 4000000 in
theorem law_c13 {p : Program} {l : Launch} {e : Env} {s : State} {m : MethodId} {args : Array Value} {below : List Frame} {meth : Method} {c : Code} {D : va_G} {ca : Nat → ClassId} {A : Nat → Prop} {Q : State → Prop} {cells slots : Nat} (X : Fx p s m args meth c D ca A 4 cL_law RL) (hcs : cells + 0 ≤ room_1.cells ∧ slots + 0 ≤ room_1.slots) {b LN : Nat} {xs : Nat → Int32} (hX : va_X b LN xs s s.heap) (hbl : b < s.heap.size) (hbA : ¬ A b) (hLN : LN ≤ 2048) {y : Int} (hy0 : 0 ≤ y) (hy4 : y + 4 ≤ LN) {L : List Nat} {M : Mem} {μ : Nat → Nat} {Sg : Int → Int → Nat} {S : AS} {a1 a2 : Nat} (h : LI ca L M μ Sg S a1 a2) (kk : ∀ (M2 : Mem) (Sg2 : Int → Int → Nat) (S2 : AS), LI ca L M2 μ Sg2 S2 a1 a2 → G p l e room_1 s m args below meth c D A 4 Q cells slots L M2 712 [(0, .ref b), (1, .ref a1), (2, .ref a2), (3, .int (iI y))] []) : G p l e room_1 s m args below meth c D A 4 Q cells slots L M 475 [(0, .ref b), (1, .ref a1), (2, .ref a2), (3, .int (iI y))] [] := by
  obtain ⟨g, be, sa, iz, pa, len, st⟩ := S
  obtain ⟨hμ, rfl, rfl, hMd, hSB, hW, hiz, hsep⟩ := h
  obtain ⟨q, sp0, tr0, rd0, hq00, hq10, -⟩ := id hMd
  dsimp only at hq00 hq10
  subst hq00 hq10
  obtain ⟨hin5, fs5, hob5⟩ := hSB.obj
  have hl0 : 0 ≤ q 0 ∧ q 0 ≤ 60 := hW.2.1
  have hs0 : 0 ≤ q 1 ∧ q 1 ≤ 6 := hW.2.2.1
  refine g_aload_n X 1 rfl dL_law_475 rfl ?_
  refine g_aload_n X 0 rfl dL_law_476 rfl ?_
  refine g_iload_n X 3 rfl dL_law_477 rfl ?_
  refine g_iconst X (z := 1) dL_law_478 rfl ?_
  refine g_iadd X dL_law_479 rfl ?_
  refine g_sld X hX hbl hbA hLN ⟨by omega, by omega⟩ dL_law_480 rfl ?_
  refine g_aload_n X 0 rfl dL_law_481 rfl ?_
  refine g_iload_n X 3 rfl dL_law_482 rfl ?_
  refine g_iconst X (z := 2) dL_law_483 rfl ?_
  refine g_iadd X dL_law_484 rfl ?_
  refine g_sld X hX hbl hbA hLN ⟨by omega, by omega⟩ dL_law_485 rfl ?_
  refine g_aload_n X 0 rfl dL_law_486 rfl ?_
  refine g_iload_n X 3 rfl dL_law_487 rfl ?_
  refine g_iconst X (z := 3) dL_law_488 rfl ?_
  refine g_iadd X dL_law_489 rfl ?_
  refine g_sld X hX hbl hbA hLN ⟨by omega, by omega⟩ dL_law_490 rfl ?_
  refine g_callV X (ct_X5_bestStride l Sg g be sa iz pa (q 0) (q 1) (sx xs (y + 1)) (sx xs (y + 2)) (sx xs (y + 3))) (As := [.int (iI (sx xs (y + 1))), .int (iI (sx xs (y + 2))), .int (iI (sx xs (y + 3)))]) (rest := []) cl_X5 rfl ca_X5_bestStride rfl wm_L_69 wi_X5_bestStride ws_X5_bestStride wc_X5_bestStride w0_X5 ⟨by decide, by decide⟩ hin5 hob5 (by decide) hcs rfl dL_law_491 rfl ⟨rfl, hSB, hW, (sx_rng _ _), (sx_rng _ _), (sx_rng _ _)⟩ (fun r1 L9 M1 hq => ?_)
  obtain ⟨rfl, rfl, hSo⟩ := hq
  obtain ⟨Sg2, hSB2, hSg2, hMd1, hsep2⟩ := hSo.sep hsep hMd
  obtain ⟨q2, sp, tr, rd, hq0, hq1, m0, m1, m2, m3, m4, m5, m6, m7, m8⟩ := hMd1
  have e0 : q2 0 = q 0 := hq0
  have e1 : q2 1 = q 1 := hq1
  refine g_st (st' := [.int (iI (anBest (g, be, sa, iz, pa, q 0, q 1) (sx xs (y + 1)) (sx xs (y + 2)) (sx xs (y + 3))))]) rfl ?_
  refine g_aload_n X 2 rfl dL_law_494 rfl ?_
  refine g_aload_n X 0 rfl dL_law_495 rfl ?_
  refine g_iload_n X 3 rfl dL_law_496 rfl ?_
  refine g_iconst X (z := 1) dL_law_497 rfl ?_
  refine g_iadd X dL_law_498 rfl ?_
  refine g_sld X hX hbl hbA hLN ⟨by omega, by omega⟩ dL_law_499 rfl ?_
  refine g_aload_n X 0 rfl dL_law_500 rfl ?_
  refine g_iload_n X 3 rfl dL_law_501 rfl ?_
  refine g_iconst X (z := 2) dL_law_502 rfl ?_
  refine g_iadd X dL_law_503 rfl ?_
  refine g_sld X hX hbl hbA hLN ⟨by omega, by omega⟩ dL_law_504 rfl ?_
  refine g_aload_n X 0 rfl dL_law_505 rfl ?_
  refine g_iload_n X 3 rfl dL_law_506 rfl ?_
  refine g_iconst X (z := 3) dL_law_507 rfl ?_
  refine g_iadd X dL_law_508 rfl ?_
  refine g_sld X hX hbl hbA hLN ⟨by omega, by omega⟩ dL_law_509 rfl ?_
  refine g_callV X (ct_X6_bestStride l μ q2 g sp tr be sa iz rd pa (sx xs (y + 1)) (sx xs (y + 2)) (sx xs (y + 3))) (As := [.int (iI (sx xs (y + 1))), .int (iI (sx xs (y + 2))), .int (iI (sx xs (y + 3)))]) (rest := [.int (iI (anBest (g, be, sa, iz, pa, q 0, q 1) (sx xs (y + 1)) (sx xs (y + 2)) (sx xs (y + 3))))]) cl_X6 rfl ca_X6_bestStride rfl wm_L_72 wi_X6_bestStride ws_X6_bestStride wc_X6_bestStride w0_X6 ⟨by decide, by decide⟩ (hμ.1 0 (by decide)) m0 (Nat.le_of_ble_eq_true rfl) hcs rfl dL_law_510 rfl ⟨rfl, hμ, m0, m1, m2, m3, m4, m5, m6, m7, m8, hW.1.1, by omega, by omega, (sx_rng _ _), (sx_rng _ _), (sx_rng _ _)⟩ (fun r2 L9 M2 hq => ?_)
  obtain ⟨rfl, rfl, hMd2, hfr2⟩ := hq
  rw [e0, e1] at hMd2
  refine g_st (st' := [.int (iI (anBest (g, be, sa, iz, pa, q2 0, q2 1) (sx xs (y + 1)) (sx xs (y + 2)) (sx xs (y + 3)))), .int (iI (anBest (g, be, sa, iz, pa, q 0, q 1) (sx xs (y + 1)) (sx xs (y + 2)) (sx xs (y + 3))))]) rfl ?_
  try rw [e0, e1]
  refine g_icmp_eqv X (tgt := 712) dL_law_513 (by decide) ?_
  exact kk M2 Sg2 (g, be, sa, iz, pa, q 0, q 1) ⟨hμ, rfl, hSg2, hMd2, hSB2.kept (fun s k hi => hfr2 _ (fun i hi2 => (hsep2 i s k hi2 hi).symm)), hW, hiz, hsep2⟩
set_option maxRecDepth 100000 in
set_option maxHeartbeats 4000000 in
theorem law_c14 {p : Program} {l : Launch} {e : Env} {s : State} {m : MethodId} {args : Array Value} {below : List Frame} {meth : Method} {c : Code} {D : va_G} {ca : Nat → ClassId} {A : Nat → Prop} {Q : State → Prop} {cells slots : Nat} (X : Fx p s m args meth c D ca A 4 cL_law RL) (hcs : cells + 0 ≤ room_1.cells ∧ slots + 0 ≤ room_1.slots) {b LN : Nat} {xs : Nat → Int32} (hX : va_X b LN xs s s.heap) (hbl : b < s.heap.size) (hbA : ¬ A b) (hLN : LN ≤ 2048) {y : Int} (hy0 : 0 ≤ y) (hy4 : y + 4 ≤ LN) {L : List Nat} {M : Mem} {μ : Nat → Nat} {Sg : Int → Int → Nat} {S : AS} {a1 a2 : Nat} (h : LI ca L M μ Sg S a1 a2) (kk : ∀ (M2 : Mem) (Sg2 : Int → Int → Nat) (S2 : AS), LI ca L M2 μ Sg2 S2 a1 a2 → G p l e room_1 s m args below meth c D A 4 Q cells slots L M2 712 [(0, .ref b), (1, .ref a1), (2, .ref a2), (3, .int (iI y))] []) : G p l e room_1 s m args below meth c D A 4 Q cells slots L M 518 [(0, .ref b), (1, .ref a1), (2, .ref a2), (3, .int (iI y))] [] := by
  obtain ⟨g, be, sa, iz, pa, len, st⟩ := S
  obtain ⟨hμ, rfl, rfl, hMd, hSB, hW, hiz, hsep⟩ := h
  obtain ⟨q, sp0, tr0, rd0, hq00, hq10, -⟩ := id hMd
  dsimp only at hq00 hq10
  subst hq00 hq10
  obtain ⟨hin5, fs5, hob5⟩ := hSB.obj
  have hl0 : 0 ≤ q 0 ∧ q 0 ≤ 60 := hW.2.1
  have hs0 : 0 ≤ q 1 ∧ q 1 ≤ 6 := hW.2.2.1
  refine g_aload_n X 1 rfl dL_law_518 rfl ?_
  refine g_aload_n X 0 rfl dL_law_519 rfl ?_
  refine g_iload_n X 3 rfl dL_law_520 rfl ?_
  refine g_iconst X (z := 1) dL_law_521 rfl ?_
  refine g_iadd X dL_law_522 rfl ?_
  refine g_sld X hX hbl hbA hLN ⟨by omega, by omega⟩ dL_law_523 rfl ?_
  refine g_callV X (ct_X5_bestMap l Sg g be sa iz pa (q 0) (q 1) (sx xs (y + 1))) (As := [.int (iI (sx xs (y + 1)))]) (rest := []) cl_X5 rfl ca_X5_bestMap rfl wm_L_73 wi_X5_bestMap ws_X5_bestMap wc_X5_bestMap w0_X5 ⟨by decide, by decide⟩ hin5 hob5 (by decide) hcs rfl dL_law_524 rfl ⟨rfl, hSB, hW, (sx_rng _ _)⟩ (fun r1 L9 M1 hq => ?_)
  obtain ⟨rfl, rfl, hSo⟩ := hq
  obtain ⟨Sg2, hSB2, hSg2, hMd1, hsep2⟩ := hSo.sep hsep hMd
  obtain ⟨q2, sp, tr, rd, hq0, hq1, m0, m1, m2, m3, m4, m5, m6, m7, m8⟩ := hMd1
  have e0 : q2 0 = q 0 := hq0
  have e1 : q2 1 = q 1 := hq1
  refine g_st (st' := [.int (iI (anMap (g, be, sa, iz, pa, q 0, q 1) (sx xs (y + 1))))]) rfl ?_
  refine g_aload_n X 2 rfl dL_law_527 rfl ?_
  refine g_aload_n X 0 rfl dL_law_528 rfl ?_
  refine g_iload_n X 3 rfl dL_law_529 rfl ?_
  refine g_iconst X (z := 1) dL_law_530 rfl ?_
  refine g_iadd X dL_law_531 rfl ?_
  refine g_sld X hX hbl hbA hLN ⟨by omega, by omega⟩ dL_law_532 rfl ?_
  refine g_callV X (ct_X6_bestMap l μ q2 g sp tr be sa iz rd pa (sx xs (y + 1))) (As := [.int (iI (sx xs (y + 1)))]) (rest := [.int (iI (anMap (g, be, sa, iz, pa, q 0, q 1) (sx xs (y + 1))))]) cl_X6 rfl ca_X6_bestMap rfl wm_L_76 wi_X6_bestMap ws_X6_bestMap wc_X6_bestMap w0_X6 ⟨by decide, by decide⟩ (hμ.1 0 (by decide)) m0 (Nat.le_of_ble_eq_true rfl) hcs rfl dL_law_533 rfl ⟨rfl, hμ, m0, m1, m2, m3, m4, m5, m6, m7, m8, hW.1.1, by omega, by omega, (sx_rng _ _)⟩ (fun r2 L9 M2 hq => ?_)
  obtain ⟨rfl, rfl, hMd2, hfr2⟩ := hq
  rw [e0, e1] at hMd2
  refine g_st (st' := [.int (iI (anMap (g, be, sa, iz, pa, q2 0, q2 1) (sx xs (y + 1)))), .int (iI (anMap (g, be, sa, iz, pa, q 0, q 1) (sx xs (y + 1))))]) rfl ?_
  try rw [e0, e1]
  refine g_icmp_eqv X (tgt := 712) dL_law_536 (by decide) ?_
  exact kk M2 Sg2 (g, be, sa, iz, pa, q 0, q 1) ⟨hμ, rfl, hSg2, hMd2, hSB2.kept (fun s k hi => hfr2 _ (fun i hi2 => (hsep2 i s k hi2 hi).symm)), hW, hiz, hsep2⟩
set_option maxRecDepth 100000 in
set_option maxHeartbeats 4000000 in
theorem law_c15 {p : Program} {l : Launch} {e : Env} {s : State} {m : MethodId} {args : Array Value} {below : List Frame} {meth : Method} {c : Code} {D : va_G} {ca : Nat → ClassId} {A : Nat → Prop} {Q : State → Prop} {cells slots : Nat} (X : Fx p s m args meth c D ca A 4 cL_law RL) (hcs : cells + 0 ≤ room_1.cells ∧ slots + 0 ≤ room_1.slots) {b LN : Nat} {xs : Nat → Int32} (hX : va_X b LN xs s s.heap) (hbl : b < s.heap.size) (hbA : ¬ A b) (hLN : LN ≤ 2048) {y : Int} (hy0 : 0 ≤ y) (hy4 : y + 4 ≤ LN) {L : List Nat} {M : Mem} {μ : Nat → Nat} {Sg : Int → Int → Nat} {S : AS} {a1 a2 : Nat} (h : LI ca L M μ Sg S a1 a2) (kk : ∀ (M2 : Mem) (Sg2 : Int → Int → Nat) (S2 : AS), LI ca L M2 μ Sg2 S2 a1 a2 → G p l e room_1 s m args below meth c D A 4 Q cells slots L M2 712 [(0, .ref b), (1, .ref a1), (2, .ref a2), (3, .int (iI y))] []) : G p l e room_1 s m args below meth c D A 4 Q cells slots L M 541 [(0, .ref b), (1, .ref a1), (2, .ref a2), (3, .int (iI y))] [] := by
  obtain ⟨g, be, sa, iz, pa, len, st⟩ := S
  obtain ⟨hμ, rfl, rfl, hMd, hSB, hW, hiz, hsep⟩ := h
  obtain ⟨q, sp0, tr0, rd0, hq00, hq10, -⟩ := id hMd
  dsimp only at hq00 hq10
  subst hq00 hq10
  obtain ⟨hin5, fs5, hob5⟩ := hSB.obj
  have hl0 : 0 ≤ q 0 ∧ q 0 ≤ 60 := hW.2.1
  have hs0 : 0 ≤ q 1 ∧ q 1 ≤ 6 := hW.2.2.1
  refine g_aload_n X 1 rfl dL_law_541 rfl ?_
  refine g_aload_n X 0 rfl dL_law_542 rfl ?_
  refine g_iload_n X 3 rfl dL_law_543 rfl ?_
  refine g_iconst X (z := 1) dL_law_544 rfl ?_
  refine g_iadd X dL_law_545 rfl ?_
  refine g_sld X hX hbl hbA hLN ⟨by omega, by omega⟩ dL_law_546 rfl ?_
  refine g_aload_n X 0 rfl dL_law_547 rfl ?_
  refine g_iload_n X 3 rfl dL_law_548 rfl ?_
  refine g_iconst X (z := 2) dL_law_549 rfl ?_
  refine g_iadd X dL_law_550 rfl ?_
  refine g_sld X hX hbl hbA hLN ⟨by omega, by omega⟩ dL_law_551 rfl ?_
  refine g_callV X (ct_X5_clashes l Sg g be sa iz pa (q 0) (q 1) (sx xs (y + 1)) (sx xs (y + 2))) (As := [.int (iI (sx xs (y + 1))), .int (iI (sx xs (y + 2)))]) (rest := []) cl_X5 rfl ca_X5_clashes rfl wm_L_77 wi_X5_clashes ws_X5_clashes wc_X5_clashes w0_X5 ⟨by decide, by decide⟩ hin5 hob5 (by decide) hcs rfl dL_law_552 rfl ⟨rfl, hSB, hW, (sx_rng _ _), (sx_rng _ _)⟩ (fun r1 L9 M1 hq => ?_)
  obtain ⟨rfl, rfl, hSo⟩ := hq
  obtain ⟨Sg2, hSB2, hSg2, hMd1, hsep2⟩ := hSo.sep hsep hMd
  obtain ⟨q2, sp, tr, rd, hq0, hq1, m0, m1, m2, m3, m4, m5, m6, m7, m8⟩ := hMd1
  have e0 : q2 0 = q 0 := hq0
  have e1 : q2 1 = q 1 := hq1
  refine g_st (st' := [.int (iI (anClash (g, be, sa, iz, pa, q 0, q 1) (sx xs (y + 1)) (sx xs (y + 2))))]) rfl ?_
  refine g_aload_n X 2 rfl dL_law_555 rfl ?_
  refine g_aload_n X 0 rfl dL_law_556 rfl ?_
  refine g_iload_n X 3 rfl dL_law_557 rfl ?_
  refine g_iconst X (z := 1) dL_law_558 rfl ?_
  refine g_iadd X dL_law_559 rfl ?_
  refine g_sld X hX hbl hbA hLN ⟨by omega, by omega⟩ dL_law_560 rfl ?_
  refine g_aload_n X 0 rfl dL_law_561 rfl ?_
  refine g_iload_n X 3 rfl dL_law_562 rfl ?_
  refine g_iconst X (z := 2) dL_law_563 rfl ?_
  refine g_iadd X dL_law_564 rfl ?_
  refine g_sld X hX hbl hbA hLN ⟨by omega, by omega⟩ dL_law_565 rfl ?_
  refine g_callV X (ct_X6_clashes l μ q2 g sp tr be sa iz rd pa (sx xs (y + 1)) (sx xs (y + 2))) (As := [.int (iI (sx xs (y + 1))), .int (iI (sx xs (y + 2)))]) (rest := [.int (iI (anClash (g, be, sa, iz, pa, q 0, q 1) (sx xs (y + 1)) (sx xs (y + 2))))]) cl_X6 rfl ca_X6_clashes rfl wm_L_80 wi_X6_clashes ws_X6_clashes wc_X6_clashes w0_X6 ⟨by decide, by decide⟩ (hμ.1 0 (by decide)) m0 (Nat.le_of_ble_eq_true rfl) hcs rfl dL_law_566 rfl ⟨rfl, hμ, m0, m1, m2, m3, m4, m5, m6, m7, m8, hW.1.1, by omega, by omega, (sx_rng _ _), (sx_rng _ _)⟩ (fun r2 L9 M2 hq => ?_)
  obtain ⟨rfl, rfl, hMd2, hfr2⟩ := hq
  rw [e0, e1] at hMd2
  refine g_st (st' := [.int (iI (anClash (g, be, sa, iz, pa, q2 0, q2 1) (sx xs (y + 1)) (sx xs (y + 2)))), .int (iI (anClash (g, be, sa, iz, pa, q 0, q 1) (sx xs (y + 1)) (sx xs (y + 2))))]) rfl ?_
  try rw [e0, e1]
  refine g_icmp_eqv X (tgt := 712) dL_law_569 (by decide) ?_
  exact kk M2 Sg2 (g, be, sa, iz, pa, q 0, q 1) ⟨hμ, rfl, hSg2, hMd2, hSB2.kept (fun s k hi => hfr2 _ (fun i hi2 => (hsep2 i s k hi2 hi).symm)), hW, hiz, hsep2⟩
set_option maxRecDepth 100000 in
set_option maxHeartbeats 4000000 in
theorem law_c16 {p : Program} {l : Launch} {e : Env} {s : State} {m : MethodId} {args : Array Value} {below : List Frame} {meth : Method} {c : Code} {D : va_G} {ca : Nat → ClassId} {A : Nat → Prop} {Q : State → Prop} {cells slots : Nat} (X : Fx p s m args meth c D ca A 4 cL_law RL) (hcs : cells + 0 ≤ room_1.cells ∧ slots + 0 ≤ room_1.slots) {b LN : Nat} {xs : Nat → Int32} (hX : va_X b LN xs s s.heap) (hbl : b < s.heap.size) (hbA : ¬ A b) (hLN : LN ≤ 2048) {y : Int} (hy0 : 0 ≤ y) (hy4 : y + 4 ≤ LN) {L : List Nat} {M : Mem} {μ : Nat → Nat} {Sg : Int → Int → Nat} {S : AS} {a1 a2 : Nat} (h : LI ca L M μ Sg S a1 a2) (kk : ∀ (M2 : Mem) (Sg2 : Int → Int → Nat) (S2 : AS), LI ca L M2 μ Sg2 S2 a1 a2 → G p l e room_1 s m args below meth c D A 4 Q cells slots L M2 712 [(0, .ref b), (1, .ref a1), (2, .ref a2), (3, .int (iI y))] []) : G p l e room_1 s m args below meth c D A 4 Q cells slots L M 574 [(0, .ref b), (1, .ref a1), (2, .ref a2), (3, .int (iI y))] [] := by
  obtain ⟨g, be, sa, iz, pa, len, st⟩ := S
  obtain ⟨hμ, rfl, rfl, hMd, hSB, hW, hiz, hsep⟩ := h
  obtain ⟨q, sp0, tr0, rd0, hq00, hq10, -⟩ := id hMd
  dsimp only at hq00 hq10
  subst hq00 hq10
  obtain ⟨hin5, fs5, hob5⟩ := hSB.obj
  have hl0 : 0 ≤ q 0 ∧ q 0 ≤ 60 := hW.2.1
  have hs0 : 0 ≤ q 1 ∧ q 1 ≤ 6 := hW.2.2.1
  refine g_aload_n X 1 rfl dL_law_574 rfl ?_
  refine g_aload_n X 0 rfl dL_law_575 rfl ?_
  refine g_iload_n X 3 rfl dL_law_576 rfl ?_
  refine g_iconst X (z := 1) dL_law_577 rfl ?_
  refine g_iadd X dL_law_578 rfl ?_
  refine g_sld X hX hbl hbA hLN ⟨by omega, by omega⟩ dL_law_579 rfl ?_
  refine g_i2l X (v := ((iI (sx xs (y + 1))).toInt64)) rfl dL_law_580 rfl ?_
  refine g_bipush X (z := 32) (by decide +kernel) dL_law_581 rfl ?_
  refine g_lshl X (v := (((iI (sx xs (y + 1))).toInt64) <<< ((iI 32).toInt64 &&& 63))) rfl dL_law_583 rfl ?_
  refine g_aload_n X 0 rfl dL_law_584 rfl ?_
  refine g_iload_n X 3 rfl dL_law_585 rfl ?_
  refine g_iconst X (z := 2) dL_law_586 rfl ?_
  refine g_iadd X dL_law_587 rfl ?_
  refine g_sld X hX hbl hbA hLN ⟨by omega, by omega⟩ dL_law_588 rfl ?_
  refine g_i2l X (v := ((iI (sx xs (y + 2))).toInt64)) rfl dL_law_589 rfl ?_
  refine g_ldc2 X (v := 4294967295) wv_L_81 dL_law_590 rfl ?_
  refine g_land X (v := (((iI (sx xs (y + 2))).toInt64) &&& 4294967295)) rfl dL_law_593 rfl ?_
  refine g_lor X (v := ((((iI (sx xs (y + 1))).toInt64) <<< ((iI 32).toInt64 &&& 63)) ||| (((iI (sx xs (y + 2))).toInt64) &&& 4294967295))) rfl dL_law_594 rfl ?_
  refine g_callV X (ct_X5_put l Sg g be sa iz pa (q 0) (q 1) ((((iI (sx xs (y + 1))).toInt64) <<< ((iI 32).toInt64 &&& 63)) ||| (((iI (sx xs (y + 2))).toInt64) &&& 4294967295))) (As := [.long ((((iI (sx xs (y + 1))).toInt64) <<< ((iI 32).toInt64 &&& 63)) ||| (((iI (sx xs (y + 2))).toInt64) &&& 4294967295))]) (rest := []) cl_X5 rfl ca_X5_put rfl wm_L_83 wi_X5_put ws_X5_put wc_X5_put w0_X5 ⟨by decide, by decide⟩ hin5 hob5 (by decide) hcs rfl dL_law_595 rfl ⟨rfl, hSB, hW⟩ (fun r1 L9 M1 hq => ?_)
  obtain ⟨rfl, rfl, hSo⟩ := hq
  obtain ⟨Sg2, hSB2, hSg2, hMd1, hsep2⟩ := hSo.sep hsep hMd
  obtain ⟨q2, sp, tr, rd, hq0, hq1, m0, m1, m2, m3, m4, m5, m6, m7, m8⟩ := hMd1
  have e0 : q2 0 = q 0 := hq0
  have e1 : q2 1 = q 1 := hq1
  refine g_st (st' := [.int (iI (anPut (g, be, sa, iz, pa, q 0, q 1) ((((iI (sx xs (y + 1))).toInt64) <<< ((iI 32).toInt64 &&& 63)) ||| (((iI (sx xs (y + 2))).toInt64) &&& 4294967295))))]) rfl ?_
  refine g_aload_n X 2 rfl dL_law_598 rfl ?_
  refine g_aload_n X 0 rfl dL_law_599 rfl ?_
  refine g_iload_n X 3 rfl dL_law_600 rfl ?_
  refine g_iconst X (z := 1) dL_law_601 rfl ?_
  refine g_iadd X dL_law_602 rfl ?_
  refine g_sld X hX hbl hbA hLN ⟨by omega, by omega⟩ dL_law_603 rfl ?_
  refine g_i2l X (v := ((iI (sx xs (y + 1))).toInt64)) rfl dL_law_604 rfl ?_
  refine g_bipush X (z := 32) (by decide +kernel) dL_law_605 rfl ?_
  refine g_lshl X (v := (((iI (sx xs (y + 1))).toInt64) <<< ((iI 32).toInt64 &&& 63))) rfl dL_law_607 rfl ?_
  refine g_aload_n X 0 rfl dL_law_608 rfl ?_
  refine g_iload_n X 3 rfl dL_law_609 rfl ?_
  refine g_iconst X (z := 2) dL_law_610 rfl ?_
  refine g_iadd X dL_law_611 rfl ?_
  refine g_sld X hX hbl hbA hLN ⟨by omega, by omega⟩ dL_law_612 rfl ?_
  refine g_i2l X (v := ((iI (sx xs (y + 2))).toInt64)) rfl dL_law_613 rfl ?_
  refine g_ldc2 X (v := 4294967295) wv_L_81 dL_law_614 rfl ?_
  refine g_land X (v := (((iI (sx xs (y + 2))).toInt64) &&& 4294967295)) rfl dL_law_617 rfl ?_
  refine g_lor X (v := ((((iI (sx xs (y + 1))).toInt64) <<< ((iI 32).toInt64 &&& 63)) ||| (((iI (sx xs (y + 2))).toInt64) &&& 4294967295))) rfl dL_law_618 rfl ?_
  refine g_callV X (ct_X6_put l μ q2 g sp tr be sa iz rd pa ((((iI (sx xs (y + 1))).toInt64) <<< ((iI 32).toInt64 &&& 63)) ||| (((iI (sx xs (y + 2))).toInt64) &&& 4294967295))) (As := [.long ((((iI (sx xs (y + 1))).toInt64) <<< ((iI 32).toInt64 &&& 63)) ||| (((iI (sx xs (y + 2))).toInt64) &&& 4294967295))]) (rest := [.int (iI (anPut (g, be, sa, iz, pa, q 0, q 1) ((((iI (sx xs (y + 1))).toInt64) <<< ((iI 32).toInt64 &&& 63)) ||| (((iI (sx xs (y + 2))).toInt64) &&& 4294967295))))]) cl_X6 rfl ca_X6_put rfl wm_L_87 wi_X6_put ws_X6_put wc_X6_put w0_X6 ⟨by decide, by decide⟩ (hμ.1 0 (by decide)) m0 (Nat.le_of_ble_eq_true rfl) hcs rfl dL_law_619 rfl ⟨rfl, hμ, m0, m1, m2, m3, m4, m5, m6, m7, m8, hW.1.1, by omega, by omega⟩ (fun r2 L9 M2 hq => ?_)
  obtain ⟨rfl, rfl, hMd2, hfr2⟩ := hq
  rw [e0, e1] at hMd2
  refine g_st (st' := [.int (iI (anPut (g, be, sa, iz, pa, q2 0, q2 1) ((((iI (sx xs (y + 1))).toInt64) <<< ((iI 32).toInt64 &&& 63)) ||| (((iI (sx xs (y + 2))).toInt64) &&& 4294967295)))), .int (iI (anPut (g, be, sa, iz, pa, q 0, q 1) ((((iI (sx xs (y + 1))).toInt64) <<< ((iI 32).toInt64 &&& 63)) ||| (((iI (sx xs (y + 2))).toInt64) &&& 4294967295))))]) rfl ?_
  try rw [e0, e1]
  refine g_icmp_eqv X (tgt := 712) dL_law_622 (by decide) ?_
  exact kk M2 Sg2 (opPut (g, be, sa, iz, pa, q 0, q 1) ((((iI (sx xs (y + 1))).toInt64) <<< ((iI 32).toInt64 &&& 63)) ||| (((iI (sx xs (y + 2))).toInt64) &&& 4294967295))) ⟨hμ, rfl, hSg2, hMd2, hSB2.kept (fun s k hi => hfr2 _ (fun i hi2 => (hsep2 i s k hi2 hi).symm)), put_wf hW ((((iI (sx xs (y + 1))).toInt64) <<< ((iI 32).toInt64 &&& 63)) ||| (((iI (sx xs (y + 2))).toInt64) &&& 4294967295)), iz_put hiz ((((iI (sx xs (y + 1))).toInt64) <<< ((iI 32).toInt64 &&& 63)) ||| (((iI (sx xs (y + 2))).toInt64) &&& 4294967295)), hsep2⟩

/-! the law: a call of each, cases 17 to 21 -/
set_option maxRecDepth 100000 in
set_option maxHeartbeats 4000000 in
theorem law_c17 {p : Program} {l : Launch} {e : Env} {s : State} {m : MethodId} {args : Array Value} {below : List Frame} {meth : Method} {c : Code} {D : va_G} {ca : Nat → ClassId} {A : Nat → Prop} {Q : State → Prop} {cells slots : Nat} (X : Fx p s m args meth c D ca A 4 cL_law RL) (hcs : cells + 0 ≤ room_1.cells ∧ slots + 0 ≤ room_1.slots) {b LN : Nat} {xs : Nat → Int32} (hX : va_X b LN xs s s.heap) (hbl : b < s.heap.size) (hbA : ¬ A b) (hLN : LN ≤ 2048) {y : Int} (hy0 : 0 ≤ y) (hy4 : y + 4 ≤ LN) {L : List Nat} {M : Mem} {μ : Nat → Nat} {Sg : Int → Int → Nat} {S : AS} {a1 a2 : Nat} (h : LI ca L M μ Sg S a1 a2) (kk : ∀ (M2 : Mem) (Sg2 : Int → Int → Nat) (S2 : AS), LI ca L M2 μ Sg2 S2 a1 a2 → G p l e room_1 s m args below meth c D A 4 Q cells slots L M2 712 [(0, .ref b), (1, .ref a1), (2, .ref a2), (3, .int (iI y))] []) : G p l e room_1 s m args below meth c D A 4 Q cells slots L M 627 [(0, .ref b), (1, .ref a1), (2, .ref a2), (3, .int (iI y))] [] := by
  obtain ⟨g, be, sa, iz, pa, len, st⟩ := S
  obtain ⟨hμ, rfl, rfl, hMd, hSB, hW, hiz, hsep⟩ := h
  obtain ⟨q, sp0, tr0, rd0, hq00, hq10, -⟩ := id hMd
  dsimp only at hq00 hq10
  subst hq00 hq10
  obtain ⟨hin5, fs5, hob5⟩ := hSB.obj
  have hl0 : 0 ≤ q 0 ∧ q 0 ≤ 60 := hW.2.1
  have hs0 : 0 ≤ q 1 ∧ q 1 ≤ 6 := hW.2.2.1
  refine g_aload_n X 1 rfl dL_law_627 rfl ?_
  refine g_callV X (ct_X5_wipe l Sg g be sa iz pa (q 0) (q 1)) (As := []) (rest := []) cl_X5 rfl ca_X5_wipe rfl wm_L_88 wi_X5_wipe ws_X5_wipe wc_X5_wipe w0_X5 ⟨by decide, by decide⟩ hin5 hob5 (by decide) hcs rfl dL_law_628 rfl ⟨rfl, hSB, hW⟩ (fun r1 L9 M1 hq => ?_)
  obtain ⟨rfl, rfl, hSo⟩ := hq
  obtain ⟨Sg2, hSB2, hSg2, hMd1, hsep2⟩ := hSo.sep hsep hMd
  obtain ⟨q2, sp, tr, rd, hq0, hq1, m0, m1, m2, m3, m4, m5, m6, m7, m8⟩ := hMd1
  have e0 : q2 0 = q 0 := hq0
  have e1 : q2 1 = q 1 := hq1
  refine g_st (st' := [.int (iI (anWipe (g, be, sa, iz, pa, q 0, q 1)))]) rfl ?_
  refine g_aload_n X 2 rfl dL_law_631 rfl ?_
  refine g_callV X (ct_X6_wipe l μ q2 g sp tr be sa iz rd pa) (As := []) (rest := [.int (iI (anWipe (g, be, sa, iz, pa, q 0, q 1)))]) cl_X6 rfl ca_X6_wipe rfl wm_L_91 wi_X6_wipe ws_X6_wipe wc_X6_wipe w0_X6 ⟨by decide, by decide⟩ (hμ.1 0 (by decide)) m0 (Nat.le_of_ble_eq_true rfl) hcs rfl dL_law_632 rfl ⟨rfl, hμ, m0, m1, m2, m3, m4, m5, m6, m7, m8, hW.1.1, by omega, by omega⟩ (fun r2 L9 M2 hq => ?_)
  obtain ⟨rfl, rfl, hMd2, hfr2⟩ := hq
  rw [e0, e1] at hMd2
  refine g_st (st' := [.int (iI (anWipe (g, be, sa, iz, pa, q2 0, q2 1))), .int (iI (anWipe (g, be, sa, iz, pa, q 0, q 1)))]) rfl ?_
  try rw [e0, e1]
  refine g_icmp_eqv X (tgt := 712) dL_law_635 (by decide) ?_
  exact kk M2 Sg2 (opWipe (g, be, sa, iz, pa, q 0, q 1)) ⟨hμ, rfl, hSg2, hMd2, hSB2.kept (fun s k hi => hfr2 _ (fun i hi2 => (hsep2 i s k hi2 hi).symm)), wipe_wf hW, iz_wipe hiz, hsep2⟩
set_option maxRecDepth 100000 in
set_option maxHeartbeats 4000000 in
theorem law_c18 {p : Program} {l : Launch} {e : Env} {s : State} {m : MethodId} {args : Array Value} {below : List Frame} {meth : Method} {c : Code} {D : va_G} {ca : Nat → ClassId} {A : Nat → Prop} {Q : State → Prop} {cells slots : Nat} (X : Fx p s m args meth c D ca A 4 cL_law RL) (hcs : cells + 0 ≤ room_1.cells ∧ slots + 0 ≤ room_1.slots) {b LN : Nat} {xs : Nat → Int32} (hX : va_X b LN xs s s.heap) (hbl : b < s.heap.size) (hbA : ¬ A b) (hLN : LN ≤ 2048) {y : Int} (hy0 : 0 ≤ y) (hy4 : y + 4 ≤ LN) {L : List Nat} {M : Mem} {μ : Nat → Nat} {Sg : Int → Int → Nat} {S : AS} {a1 a2 : Nat} (h : LI ca L M μ Sg S a1 a2) (kk : ∀ (M2 : Mem) (Sg2 : Int → Int → Nat) (S2 : AS), LI ca L M2 μ Sg2 S2 a1 a2 → G p l e room_1 s m args below meth c D A 4 Q cells slots L M2 712 [(0, .ref b), (1, .ref a1), (2, .ref a2), (3, .int (iI y))] []) : G p l e room_1 s m args below meth c D A 4 Q cells slots L M 640 [(0, .ref b), (1, .ref a1), (2, .ref a2), (3, .int (iI y))] [] := by
  obtain ⟨g, be, sa, iz, pa, len, st⟩ := S
  obtain ⟨hμ, rfl, rfl, hMd, hSB, hW, hiz, hsep⟩ := h
  obtain ⟨q, sp0, tr0, rd0, hq00, hq10, -⟩ := id hMd
  dsimp only at hq00 hq10
  subst hq00 hq10
  obtain ⟨hin5, fs5, hob5⟩ := hSB.obj
  have hl0 : 0 ≤ q 0 ∧ q 0 ≤ 60 := hW.2.1
  have hs0 : 0 ≤ q 1 ∧ q 1 ≤ 6 := hW.2.2.1
  refine g_aload_n X 1 rfl dL_law_640 rfl ?_
  refine g_callV X (ct_X5_fault l Sg g be sa iz pa (q 0) (q 1)) (As := []) (rest := []) cl_X5 rfl ca_X5_fault rfl wm_L_92 wi_X5_fault ws_X5_fault wc_X5_fault w0_X5 ⟨by decide, by decide⟩ hin5 hob5 (by decide) hcs rfl dL_law_641 rfl ⟨rfl, hSB, hW⟩ (fun r1 L9 M1 hq => ?_)
  obtain ⟨rfl, rfl, hSo⟩ := hq
  obtain ⟨Sg2, hSB2, hSg2, hMd1, hsep2⟩ := hSo.sep hsep hMd
  obtain ⟨q2, sp, tr, rd, hq0, hq1, m0, m1, m2, m3, m4, m5, m6, m7, m8⟩ := hMd1
  have e0 : q2 0 = q 0 := hq0
  have e1 : q2 1 = q 1 := hq1
  refine g_st (st' := [.int (iI (anFault (g, be, sa, iz, pa, q 0, q 1)))]) rfl ?_
  refine g_aload_n X 2 rfl dL_law_644 rfl ?_
  refine g_callV X (ct_X6_fault l μ q2 g sp tr be sa iz rd pa) (As := []) (rest := [.int (iI (anFault (g, be, sa, iz, pa, q 0, q 1)))]) cl_X6 rfl ca_X6_fault rfl wm_L_95 wi_X6_fault ws_X6_fault wc_X6_fault w0_X6 ⟨by decide, by decide⟩ (hμ.1 0 (by decide)) m0 (Nat.le_of_ble_eq_true rfl) hcs rfl dL_law_645 rfl ⟨rfl, hμ, m0, m1, m2, m3, m4, m5, m6, m7, m8, hW.1.1, by omega, by omega, hW.2.2.2.1⟩ (fun r2 L9 M2 hq => ?_)
  obtain ⟨rfl, rfl, hMd2, hfr2⟩ := hq
  rw [e0, e1] at hMd2
  refine g_st (st' := [.int (iI (anFault (g, be, sa, iz, pa, q2 0, q2 1))), .int (iI (anFault (g, be, sa, iz, pa, q 0, q 1)))]) rfl ?_
  try rw [e0, e1]
  refine g_icmp_eqv X (tgt := 712) dL_law_648 (by decide) ?_
  exact kk M2 Sg2 (g, be, sa, iz, pa, q 0, q 1) ⟨hμ, rfl, hSg2, hMd2, hSB2.kept (fun s k hi => hfr2 _ (fun i hi2 => (hsep2 i s k hi2 hi).symm)), hW, hiz, hsep2⟩
set_option maxRecDepth 100000 in
set_option maxHeartbeats 4000000 in
theorem law_c19 {p : Program} {l : Launch} {e : Env} {s : State} {m : MethodId} {args : Array Value} {below : List Frame} {meth : Method} {c : Code} {D : va_G} {ca : Nat → ClassId} {A : Nat → Prop} {Q : State → Prop} {cells slots : Nat} (X : Fx p s m args meth c D ca A 4 cL_law RL) (hcs : cells + 0 ≤ room_1.cells ∧ slots + 0 ≤ room_1.slots) {b LN : Nat} {xs : Nat → Int32} (hX : va_X b LN xs s s.heap) (hbl : b < s.heap.size) (hbA : ¬ A b) (hLN : LN ≤ 2048) {y : Int} (hy0 : 0 ≤ y) (hy4 : y + 4 ≤ LN) {L : List Nat} {M : Mem} {μ : Nat → Nat} {Sg : Int → Int → Nat} {S : AS} {a1 a2 : Nat} (h : LI ca L M μ Sg S a1 a2) (kk : ∀ (M2 : Mem) (Sg2 : Int → Int → Nat) (S2 : AS), LI ca L M2 μ Sg2 S2 a1 a2 → G p l e room_1 s m args below meth c D A 4 Q cells slots L M2 712 [(0, .ref b), (1, .ref a1), (2, .ref a2), (3, .int (iI y))] []) : G p l e room_1 s m args below meth c D A 4 Q cells slots L M 653 [(0, .ref b), (1, .ref a1), (2, .ref a2), (3, .int (iI y))] [] := by
  obtain ⟨g, be, sa, iz, pa, len, st⟩ := S
  obtain ⟨hμ, rfl, rfl, hMd, hSB, hW, hiz, hsep⟩ := h
  obtain ⟨q, sp0, tr0, rd0, hq00, hq10, -⟩ := id hMd
  dsimp only at hq00 hq10
  subst hq00 hq10
  obtain ⟨hin5, fs5, hob5⟩ := hSB.obj
  have hl0 : 0 ≤ q 0 ∧ q 0 ≤ 60 := hW.2.1
  have hs0 : 0 ≤ q 1 ∧ q 1 ≤ 6 := hW.2.2.1
  refine g_aload_n X 1 rfl dL_law_653 rfl ?_
  refine g_callV X (ct_X5_undo l Sg g be sa iz pa (q 0) (q 1)) (As := []) (rest := []) cl_X5 rfl ca_X5_undo rfl wm_L_96 wi_X5_undo ws_X5_undo wc_X5_undo w0_X5 ⟨by decide, by decide⟩ hin5 hob5 (by decide) hcs rfl dL_law_654 rfl ⟨rfl, hSB, hW⟩ (fun r1 L9 M1 hq => ?_)
  obtain ⟨rfl, rfl, hSo⟩ := hq
  obtain ⟨Sg2, hSB2, hSg2, hMd1, hsep2⟩ := hSo.sep hsep hMd
  obtain ⟨q2, sp, tr, rd, hq0, hq1, m0, m1, m2, m3, m4, m5, m6, m7, m8⟩ := hMd1
  have e0 : q2 0 = q 0 := hq0
  have e1 : q2 1 = q 1 := hq1
  refine g_st (st' := [.int (iI (anUndo (g, be, sa, iz, pa, q 0, q 1)))]) rfl ?_
  refine g_aload_n X 2 rfl dL_law_657 rfl ?_
  refine g_callV X (ct_X6_undo l μ q2 g sp tr be sa iz rd pa) (As := []) (rest := [.int (iI (anUndo (g, be, sa, iz, pa, q 0, q 1)))]) cl_X6 rfl ca_X6_undo rfl wm_L_99 wi_X6_undo ws_X6_undo wc_X6_undo w0_X6 ⟨by decide, by decide⟩ (hμ.1 0 (by decide)) m0 (Nat.le_of_ble_eq_true rfl) hcs rfl dL_law_658 rfl ⟨rfl, hμ, m0, m1, m2, m3, m4, m5, m6, m7, m8, hW.1.1, by omega, by omega⟩ (fun r2 L9 M2 hq => ?_)
  obtain ⟨rfl, rfl, hMd2, hfr2⟩ := hq
  rw [e0, e1] at hMd2
  refine g_st (st' := [.int (iI (anUndo (g, be, sa, iz, pa, q2 0, q2 1))), .int (iI (anUndo (g, be, sa, iz, pa, q 0, q 1)))]) rfl ?_
  try rw [e0, e1]
  refine g_icmp_eqv X (tgt := 712) dL_law_661 (by decide) ?_
  exact kk M2 Sg2 (opUndo (g, be, sa, iz, pa, q 0, q 1)) ⟨hμ, rfl, hSg2, hMd2, hSB2.kept (fun s k hi => hfr2 _ (fun i hi2 => (hsep2 i s k hi2 hi).symm)), undo_wf hW, iz_undo hiz, hsep2⟩
set_option maxRecDepth 100000 in
set_option maxHeartbeats 4000000 in
theorem law_c20 {p : Program} {l : Launch} {e : Env} {s : State} {m : MethodId} {args : Array Value} {below : List Frame} {meth : Method} {c : Code} {D : va_G} {ca : Nat → ClassId} {A : Nat → Prop} {Q : State → Prop} {cells slots : Nat} (X : Fx p s m args meth c D ca A 4 cL_law RL) (hcs : cells + 0 ≤ room_1.cells ∧ slots + 0 ≤ room_1.slots) {b LN : Nat} {xs : Nat → Int32} (hX : va_X b LN xs s s.heap) (hbl : b < s.heap.size) (hbA : ¬ A b) (hLN : LN ≤ 2048) {y : Int} (hy0 : 0 ≤ y) (hy4 : y + 4 ≤ LN) {L : List Nat} {M : Mem} {μ : Nat → Nat} {Sg : Int → Int → Nat} {S : AS} {a1 a2 : Nat} (h : LI ca L M μ Sg S a1 a2) (kk : ∀ (M2 : Mem) (Sg2 : Int → Int → Nat) (S2 : AS), LI ca L M2 μ Sg2 S2 a1 a2 → G p l e room_1 s m args below meth c D A 4 Q cells slots L M2 712 [(0, .ref b), (1, .ref a1), (2, .ref a2), (3, .int (iI y))] []) : G p l e room_1 s m args below meth c D A 4 Q cells slots L M 666 [(0, .ref b), (1, .ref a1), (2, .ref a2), (3, .int (iI y))] [] := by
  obtain ⟨g, be, sa, iz, pa, len, st⟩ := S
  obtain ⟨hμ, rfl, rfl, hMd, hSB, hW, hiz, hsep⟩ := h
  obtain ⟨q, sp0, tr0, rd0, hq00, hq10, -⟩ := id hMd
  dsimp only at hq00 hq10
  subst hq00 hq10
  obtain ⟨hin5, fs5, hob5⟩ := hSB.obj
  have hl0 : 0 ≤ q 0 ∧ q 0 ≤ 60 := hW.2.1
  have hs0 : 0 ≤ q 1 ∧ q 1 ≤ 6 := hW.2.2.1
  refine g_aload_n X 1 rfl dL_law_666 rfl ?_
  refine g_aload_n X 0 rfl dL_law_667 rfl ?_
  refine g_iload_n X 3 rfl dL_law_668 rfl ?_
  refine g_iconst X (z := 1) dL_law_669 rfl ?_
  refine g_iadd X dL_law_670 rfl ?_
  refine g_sld X hX hbl hbA hLN ⟨by omega, by omega⟩ dL_law_671 rfl ?_
  refine g_callV X (ct_X5_save l Sg g be sa iz pa (q 0) (q 1) (sx xs (y + 1))) (As := [.int (iI (sx xs (y + 1)))]) (rest := []) cl_X5 rfl ca_X5_save rfl wm_L_100 wi_X5_save ws_X5_save wc_X5_save w0_X5 ⟨by decide, by decide⟩ hin5 hob5 (by decide) hcs rfl dL_law_672 rfl ⟨rfl, hSB, hW, (sx_rng _ _)⟩ (fun r1 L9 M1 hq => ?_)
  obtain ⟨rfl, rfl, hSo⟩ := hq
  obtain ⟨Sg2, hSB2, hSg2, hMd1, hsep2⟩ := hSo.sep hsep hMd
  obtain ⟨q2, sp, tr, rd, hq0, hq1, m0, m1, m2, m3, m4, m5, m6, m7, m8⟩ := hMd1
  have e0 : q2 0 = q 0 := hq0
  have e1 : q2 1 = q 1 := hq1
  refine g_st (st' := [.int (iI (anSave (g, be, sa, iz, pa, q 0, q 1) (sx xs (y + 1))))]) rfl ?_
  refine g_aload_n X 2 rfl dL_law_675 rfl ?_
  refine g_aload_n X 0 rfl dL_law_676 rfl ?_
  refine g_iload_n X 3 rfl dL_law_677 rfl ?_
  refine g_iconst X (z := 1) dL_law_678 rfl ?_
  refine g_iadd X dL_law_679 rfl ?_
  refine g_sld X hX hbl hbA hLN ⟨by omega, by omega⟩ dL_law_680 rfl ?_
  refine g_callV X (ct_X6_save l μ q2 g sp tr be sa iz rd pa (sx xs (y + 1))) (As := [.int (iI (sx xs (y + 1)))]) (rest := [.int (iI (anSave (g, be, sa, iz, pa, q 0, q 1) (sx xs (y + 1))))]) cl_X6 rfl ca_X6_save rfl wm_L_103 wi_X6_save ws_X6_save wc_X6_save w0_X6 ⟨by decide, by decide⟩ (hμ.1 0 (by decide)) m0 (Nat.le_of_ble_eq_true rfl) hcs rfl dL_law_681 rfl ⟨rfl, hμ, m0, m1, m2, m3, m4, m5, m6, m7, m8, hW.1.1, by omega, by omega, (sx_rng _ _)⟩ (fun r2 L9 M2 hq => ?_)
  obtain ⟨rfl, rfl, hMd2, hfr2⟩ := hq
  rw [e0, e1] at hMd2
  refine g_st (st' := [.int (iI (anSave (g, be, sa, iz, pa, q2 0, q2 1) (sx xs (y + 1)))), .int (iI (anSave (g, be, sa, iz, pa, q 0, q 1) (sx xs (y + 1))))]) rfl ?_
  try rw [e0, e1]
  refine g_icmp_eqv X (tgt := 712) dL_law_684 (by decide) ?_
  exact kk M2 Sg2 (opSave (g, be, sa, iz, pa, q 0, q 1) (sx xs (y + 1))) ⟨hμ, rfl, hSg2, hMd2, hSB2.kept (fun s k hi => hfr2 _ (fun i hi2 => (hsep2 i s k hi2 hi).symm)), save_wf hW (sx xs (y + 1)), iz_save hiz (sx xs (y + 1)), hsep2⟩
set_option maxRecDepth 100000 in
set_option maxHeartbeats 4000000 in
theorem law_c21 {p : Program} {l : Launch} {e : Env} {s : State} {m : MethodId} {args : Array Value} {below : List Frame} {meth : Method} {c : Code} {D : va_G} {ca : Nat → ClassId} {A : Nat → Prop} {Q : State → Prop} {cells slots : Nat} (X : Fx p s m args meth c D ca A 4 cL_law RL) (hcs : cells + 0 ≤ room_1.cells ∧ slots + 0 ≤ room_1.slots) {b LN : Nat} {xs : Nat → Int32} (hX : va_X b LN xs s s.heap) (hbl : b < s.heap.size) (hbA : ¬ A b) (hLN : LN ≤ 2048) {y : Int} (hy0 : 0 ≤ y) (hy4 : y + 4 ≤ LN) {L : List Nat} {M : Mem} {μ : Nat → Nat} {Sg : Int → Int → Nat} {S : AS} {a1 a2 : Nat} (h : LI ca L M μ Sg S a1 a2) (kk : ∀ (M2 : Mem) (Sg2 : Int → Int → Nat) (S2 : AS), LI ca L M2 μ Sg2 S2 a1 a2 → G p l e room_1 s m args below meth c D A 4 Q cells slots L M2 712 [(0, .ref b), (1, .ref a1), (2, .ref a2), (3, .int (iI y))] []) : G p l e room_1 s m args below meth c D A 4 Q cells slots L M 689 [(0, .ref b), (1, .ref a1), (2, .ref a2), (3, .int (iI y))] [] := by
  obtain ⟨g, be, sa, iz, pa, len, st⟩ := S
  obtain ⟨hμ, rfl, rfl, hMd, hSB, hW, hiz, hsep⟩ := h
  obtain ⟨q, sp0, tr0, rd0, hq00, hq10, -⟩ := id hMd
  dsimp only at hq00 hq10
  subst hq00 hq10
  obtain ⟨hin5, fs5, hob5⟩ := hSB.obj
  have hl0 : 0 ≤ q 0 ∧ q 0 ≤ 60 := hW.2.1
  have hs0 : 0 ≤ q 1 ∧ q 1 ≤ 6 := hW.2.2.1
  refine g_aload_n X 1 rfl dL_law_689 rfl ?_
  refine g_aload_n X 0 rfl dL_law_690 rfl ?_
  refine g_iload_n X 3 rfl dL_law_691 rfl ?_
  refine g_iconst X (z := 1) dL_law_692 rfl ?_
  refine g_iadd X dL_law_693 rfl ?_
  refine g_sld X hX hbl hbA hLN ⟨by omega, by omega⟩ dL_law_694 rfl ?_
  refine g_callV X (ct_X5_restore l Sg g be sa iz pa (q 0) (q 1) (sx xs (y + 1))) (As := [.int (iI (sx xs (y + 1)))]) (rest := []) cl_X5 rfl ca_X5_restore rfl wm_L_104 wi_X5_restore ws_X5_restore wc_X5_restore w0_X5 ⟨by decide, by decide⟩ hin5 hob5 (by decide) hcs rfl dL_law_695 rfl ⟨rfl, hSB, hW, (sx_rng _ _)⟩ (fun r1 L9 M1 hq => ?_)
  obtain ⟨rfl, rfl, hSo⟩ := hq
  obtain ⟨Sg2, hSB2, hSg2, hMd1, hsep2⟩ := hSo.sep hsep hMd
  obtain ⟨q2, sp, tr, rd, hq0, hq1, m0, m1, m2, m3, m4, m5, m6, m7, m8⟩ := hMd1
  have e0 : q2 0 = q 0 := hq0
  have e1 : q2 1 = q 1 := hq1
  refine g_st (st' := [.int (iI (anRestore (g, be, sa, iz, pa, q 0, q 1) (sx xs (y + 1))))]) rfl ?_
  refine g_aload_n X 2 rfl dL_law_698 rfl ?_
  refine g_aload_n X 0 rfl dL_law_699 rfl ?_
  refine g_iload_n X 3 rfl dL_law_700 rfl ?_
  refine g_iconst X (z := 1) dL_law_701 rfl ?_
  refine g_iadd X dL_law_702 rfl ?_
  refine g_sld X hX hbl hbA hLN ⟨by omega, by omega⟩ dL_law_703 rfl ?_
  refine g_callV X (ct_X6_restore l μ q2 g sp tr be sa iz rd pa (sx xs (y + 1))) (As := [.int (iI (sx xs (y + 1)))]) (rest := [.int (iI (anRestore (g, be, sa, iz, pa, q 0, q 1) (sx xs (y + 1))))]) cl_X6 rfl ca_X6_restore rfl wm_L_107 wi_X6_restore ws_X6_restore wc_X6_restore w0_X6 ⟨by decide, by decide⟩ (hμ.1 0 (by decide)) m0 (Nat.le_of_ble_eq_true rfl) hcs rfl dL_law_704 rfl ⟨rfl, hμ, m0, m1, m2, m3, m4, m5, m6, m7, m8, hW.1.1, by omega, by omega, (sx_rng _ _), hiz⟩ (fun r2 L9 M2 hq => ?_)
  obtain ⟨rfl, rfl, hMd2, hfr2⟩ := hq
  rw [e0, e1] at hMd2
  refine g_st (st' := [.int (iI (anRestore (g, be, sa, iz, pa, q2 0, q2 1) (sx xs (y + 1)))), .int (iI (anRestore (g, be, sa, iz, pa, q 0, q 1) (sx xs (y + 1))))]) rfl ?_
  try rw [e0, e1]
  refine g_icmp_eqv X (tgt := 712) dL_law_707 (by decide) ?_
  exact kk M2 Sg2 (opRestore (g, be, sa, iz, pa, q 0, q 1) (sx xs (y + 1))) ⟨hμ, rfl, hSg2, hMd2, hSB2.kept (fun s k hi => hfr2 _ (fun i hi2 => (hsep2 i s k hi2 hi).symm)), restore_wf hW (sx xs (y + 1)), iz_restore hiz (sx xs (y + 1)), hsep2⟩

/-! the law: a call of each, cases 0 to 5 -/
set_option maxRecDepth 100000 in
set_option maxHeartbeats 4000000 in
theorem law_c0 {p : Program} {l : Launch} {e : Env} {s : State} {m : MethodId} {args : Array Value} {below : List Frame} {meth : Method} {c : Code} {D : va_G} {ca : Nat → ClassId} {A : Nat → Prop} {Q : State → Prop} {cells slots : Nat} (X : Fx p s m args meth c D ca A 4 cL_law RL) (hcs : cells + 0 ≤ room_1.cells ∧ slots + 0 ≤ room_1.slots) {b LN : Nat} {xs : Nat → Int32} (hX : va_X b LN xs s s.heap) (hbl : b < s.heap.size) (hbA : ¬ A b) (hLN : LN ≤ 2048) {y : Int} (hy0 : 0 ≤ y) (hy4 : y + 4 ≤ LN) {L : List Nat} {M : Mem} {μ : Nat → Nat} {Sg : Int → Int → Nat} {S : AS} {a1 a2 : Nat} (h : LI ca L M μ Sg S a1 a2) (kk : ∀ (M2 : Mem) (Sg2 : Int → Int → Nat) (S2 : AS), LI ca L M2 μ Sg2 S2 a1 a2 → G p l e room_1 s m args below meth c D A 4 Q cells slots L M2 712 [(0, .ref b), (1, .ref a1), (2, .ref a2), (3, .int (iI y))] []) : G p l e room_1 s m args below meth c D A 4 Q cells slots L M 136 [(0, .ref b), (1, .ref a1), (2, .ref a2), (3, .int (iI y))] [] := by
  obtain ⟨g, be, sa, iz, pa, len, st⟩ := S
  obtain ⟨hμ, rfl, rfl, hMd, hSB, hW, hiz, hsep⟩ := h
  obtain ⟨q, sp0, tr0, rd0, hq00, hq10, -⟩ := id hMd
  dsimp only at hq00 hq10
  subst hq00 hq10
  obtain ⟨hin5, fs5, hob5⟩ := hSB.obj
  have hl0 : 0 ≤ q 0 ∧ q 0 ≤ 60 := hW.2.1
  have hs0 : 0 ≤ q 1 ∧ q 1 ≤ 6 := hW.2.2.1
  refine g_aload_n X 1 rfl dL_law_136 rfl ?_
  refine g_aload_n X 0 rfl dL_law_137 rfl ?_
  refine g_iload_n X 3 rfl dL_law_138 rfl ?_
  refine g_iconst X (z := 1) dL_law_139 rfl ?_
  refine g_iadd X dL_law_140 rfl ?_
  refine g_sld X hX hbl hbA hLN ⟨by omega, by omega⟩ dL_law_141 rfl ?_
  refine g_aload_n X 0 rfl dL_law_142 rfl ?_
  refine g_iload_n X 3 rfl dL_law_143 rfl ?_
  refine g_iconst X (z := 2) dL_law_144 rfl ?_
  refine g_iadd X dL_law_145 rfl ?_
  refine g_sld X hX hbl hbA hLN ⟨by omega, by omega⟩ dL_law_146 rfl ?_
  refine g_callV X (ct_X5_set l Sg g be sa iz pa (q 0) (q 1) (sx xs (y + 1)) (sx xs (y + 2))) (As := [.int (iI (sx xs (y + 1))), .int (iI (sx xs (y + 2)))]) (rest := []) cl_X5 rfl ca_X5_set rfl wm_L_13 wi_X5_set ws_X5_set wc_X5_set w0_X5 ⟨by decide, by decide⟩ hin5 hob5 (by decide) hcs rfl dL_law_147 rfl ⟨rfl, hSB, hW, (sx_rng _ _), (sx_rng _ _)⟩ (fun r1 L9 M1 hq => ?_)
  obtain ⟨rfl, rfl, hSo⟩ := hq
  obtain ⟨Sg2, hSB2, hSg2, hMd1, hsep2⟩ := hSo.sep hsep hMd
  obtain ⟨q2, sp, tr, rd, hq0, hq1, m0, m1, m2, m3, m4, m5, m6, m7, m8⟩ := hMd1
  have e0 : q2 0 = q 0 := hq0
  have e1 : q2 1 = q 1 := hq1
  refine g_st (st' := [.int (iI (anSet (g, be, sa, iz, pa, q 0, q 1) (sx xs (y + 1)) (sx xs (y + 2))))]) rfl ?_
  refine g_aload_n X 2 rfl dL_law_150 rfl ?_
  refine g_aload_n X 0 rfl dL_law_151 rfl ?_
  refine g_iload_n X 3 rfl dL_law_152 rfl ?_
  refine g_iconst X (z := 1) dL_law_153 rfl ?_
  refine g_iadd X dL_law_154 rfl ?_
  refine g_sld X hX hbl hbA hLN ⟨by omega, by omega⟩ dL_law_155 rfl ?_
  refine g_aload_n X 0 rfl dL_law_156 rfl ?_
  refine g_iload_n X 3 rfl dL_law_157 rfl ?_
  refine g_iconst X (z := 2) dL_law_158 rfl ?_
  refine g_iadd X dL_law_159 rfl ?_
  refine g_sld X hX hbl hbA hLN ⟨by omega, by omega⟩ dL_law_160 rfl ?_
  refine g_callV X (ct_X6_set l μ q2 g sp tr be sa iz rd pa (sx xs (y + 1)) (sx xs (y + 2))) (As := [.int (iI (sx xs (y + 1))), .int (iI (sx xs (y + 2)))]) (rest := [.int (iI (anSet (g, be, sa, iz, pa, q 0, q 1) (sx xs (y + 1)) (sx xs (y + 2))))]) cl_X6 rfl ca_X6_set rfl wm_L_17 wi_X6_set ws_X6_set wc_X6_set w0_X6 ⟨by decide, by decide⟩ (hμ.1 0 (by decide)) m0 (Nat.le_of_ble_eq_true rfl) hcs rfl dL_law_161 rfl ⟨rfl, hμ, m0, m1, m2, m3, m4, m5, m6, m7, m8, hW.1.1, by omega, by omega, (sx_rng _ _), (sx_rng _ _)⟩ (fun r2 L9 M2 hq => ?_)
  obtain ⟨rfl, rfl, hMd2, hfr2⟩ := hq
  rw [e0, e1] at hMd2
  refine g_st (st' := [.int (iI (anSet (g, be, sa, iz, pa, q2 0, q2 1) (sx xs (y + 1)) (sx xs (y + 2)))), .int (iI (anSet (g, be, sa, iz, pa, q 0, q 1) (sx xs (y + 1)) (sx xs (y + 2))))]) rfl ?_
  try rw [e0, e1]
  refine g_icmp_eqv X (tgt := 712) dL_law_164 (by decide) ?_
  exact kk M2 Sg2 (opSet (g, be, sa, iz, pa, q 0, q 1) (sx xs (y + 1)) (sx xs (y + 2))) ⟨hμ, rfl, hSg2, hMd2, hSB2.kept (fun s k hi => hfr2 _ (fun i hi2 => (hsep2 i s k hi2 hi).symm)), set_wf hW (sx xs (y + 1)) (sx xs (y + 2)), iz_set hiz (sx xs (y + 1)) (sx xs (y + 2)), hsep2⟩
set_option maxRecDepth 100000 in
set_option maxHeartbeats 4000000 in
theorem law_c1 {p : Program} {l : Launch} {e : Env} {s : State} {m : MethodId} {args : Array Value} {below : List Frame} {meth : Method} {c : Code} {D : va_G} {ca : Nat → ClassId} {A : Nat → Prop} {Q : State → Prop} {cells slots : Nat} (X : Fx p s m args meth c D ca A 4 cL_law RL) (hcs : cells + 0 ≤ room_1.cells ∧ slots + 0 ≤ room_1.slots) {b LN : Nat} {xs : Nat → Int32} (hX : va_X b LN xs s s.heap) (hbl : b < s.heap.size) (hbA : ¬ A b) (hLN : LN ≤ 2048) {y : Int} (hy0 : 0 ≤ y) (hy4 : y + 4 ≤ LN) {L : List Nat} {M : Mem} {μ : Nat → Nat} {Sg : Int → Int → Nat} {S : AS} {a1 a2 : Nat} (h : LI ca L M μ Sg S a1 a2) (kk : ∀ (M2 : Mem) (Sg2 : Int → Int → Nat) (S2 : AS), LI ca L M2 μ Sg2 S2 a1 a2 → G p l e room_1 s m args below meth c D A 4 Q cells slots L M2 712 [(0, .ref b), (1, .ref a1), (2, .ref a2), (3, .int (iI y))] []) : G p l e room_1 s m args below meth c D A 4 Q cells slots L M 169 [(0, .ref b), (1, .ref a1), (2, .ref a2), (3, .int (iI y))] [] := by
  obtain ⟨g, be, sa, iz, pa, len, st⟩ := S
  obtain ⟨hμ, rfl, rfl, hMd, hSB, hW, hiz, hsep⟩ := h
  obtain ⟨q, sp0, tr0, rd0, hq00, hq10, -⟩ := id hMd
  dsimp only at hq00 hq10
  subst hq00 hq10
  obtain ⟨hin5, fs5, hob5⟩ := hSB.obj
  have hl0 : 0 ≤ q 0 ∧ q 0 ≤ 60 := hW.2.1
  have hs0 : 0 ≤ q 1 ∧ q 1 ≤ 6 := hW.2.2.1
  refine g_aload_n X 1 rfl dL_law_169 rfl ?_
  refine g_aload_n X 0 rfl dL_law_170 rfl ?_
  refine g_iload_n X 3 rfl dL_law_171 rfl ?_
  refine g_iconst X (z := 1) dL_law_172 rfl ?_
  refine g_iadd X dL_law_173 rfl ?_
  refine g_sld X hX hbl hbA hLN ⟨by omega, by omega⟩ dL_law_174 rfl ?_
  refine g_aload_n X 0 rfl dL_law_175 rfl ?_
  refine g_iload_n X 3 rfl dL_law_176 rfl ?_
  refine g_iconst X (z := 2) dL_law_177 rfl ?_
  refine g_iadd X dL_law_178 rfl ?_
  refine g_sld X hX hbl hbA hLN ⟨by omega, by omega⟩ dL_law_179 rfl ?_
  refine g_aload_n X 0 rfl dL_law_180 rfl ?_
  refine g_iload_n X 3 rfl dL_law_181 rfl ?_
  refine g_iconst X (z := 3) dL_law_182 rfl ?_
  refine g_iadd X dL_law_183 rfl ?_
  refine g_sld X hX hbl hbA hLN ⟨by omega, by omega⟩ dL_law_184 rfl ?_
  refine g_callV X (ct_X5_add l Sg g be sa iz pa (q 0) (q 1) (sx xs (y + 1)) (sx xs (y + 2)) (sx xs (y + 3))) (As := [.int (iI (sx xs (y + 1))), .int (iI (sx xs (y + 2))), .int (iI (sx xs (y + 3)))]) (rest := []) cl_X5 rfl ca_X5_add rfl wm_L_18 wi_X5_add ws_X5_add wc_X5_add w0_X5 ⟨by decide, by decide⟩ hin5 hob5 (by decide) hcs rfl dL_law_185 rfl ⟨rfl, hSB, hW, (sx_rng _ _), (sx_rng _ _), (sx_rng _ _)⟩ (fun r1 L9 M1 hq => ?_)
  obtain ⟨rfl, rfl, hSo⟩ := hq
  obtain ⟨Sg2, hSB2, hSg2, hMd1, hsep2⟩ := hSo.sep hsep hMd
  obtain ⟨q2, sp, tr, rd, hq0, hq1, m0, m1, m2, m3, m4, m5, m6, m7, m8⟩ := hMd1
  have e0 : q2 0 = q 0 := hq0
  have e1 : q2 1 = q 1 := hq1
  refine g_st (st' := [.int (iI (anAdd (g, be, sa, iz, pa, q 0, q 1) (sx xs (y + 1)) (sx xs (y + 2)) (sx xs (y + 3))))]) rfl ?_
  refine g_aload_n X 2 rfl dL_law_188 rfl ?_
  refine g_aload_n X 0 rfl dL_law_189 rfl ?_
  refine g_iload_n X 3 rfl dL_law_190 rfl ?_
  refine g_iconst X (z := 1) dL_law_191 rfl ?_
  refine g_iadd X dL_law_192 rfl ?_
  refine g_sld X hX hbl hbA hLN ⟨by omega, by omega⟩ dL_law_193 rfl ?_
  refine g_aload_n X 0 rfl dL_law_194 rfl ?_
  refine g_iload_n X 3 rfl dL_law_195 rfl ?_
  refine g_iconst X (z := 2) dL_law_196 rfl ?_
  refine g_iadd X dL_law_197 rfl ?_
  refine g_sld X hX hbl hbA hLN ⟨by omega, by omega⟩ dL_law_198 rfl ?_
  refine g_aload_n X 0 rfl dL_law_199 rfl ?_
  refine g_iload_n X 3 rfl dL_law_200 rfl ?_
  refine g_iconst X (z := 3) dL_law_201 rfl ?_
  refine g_iadd X dL_law_202 rfl ?_
  refine g_sld X hX hbl hbA hLN ⟨by omega, by omega⟩ dL_law_203 rfl ?_
  refine g_callV X (ct_X6_add l μ q2 g sp tr be sa iz rd pa (sx xs (y + 1)) (sx xs (y + 2)) (sx xs (y + 3))) (As := [.int (iI (sx xs (y + 1))), .int (iI (sx xs (y + 2))), .int (iI (sx xs (y + 3)))]) (rest := [.int (iI (anAdd (g, be, sa, iz, pa, q 0, q 1) (sx xs (y + 1)) (sx xs (y + 2)) (sx xs (y + 3))))]) cl_X6 rfl ca_X6_add rfl wm_L_22 wi_X6_add ws_X6_add wc_X6_add w0_X6 ⟨by decide, by decide⟩ (hμ.1 0 (by decide)) m0 (Nat.le_of_ble_eq_true rfl) hcs rfl dL_law_204 rfl ⟨rfl, hμ, m0, m1, m2, m3, m4, m5, m6, m7, m8, hW.1.1, by omega, by omega, (sx_rng _ _), (sx_rng _ _), (sx_rng _ _)⟩ (fun r2 L9 M2 hq => ?_)
  obtain ⟨rfl, rfl, hMd2, hfr2⟩ := hq
  rw [e0, e1] at hMd2
  refine g_st (st' := [.int (iI (anAdd (g, be, sa, iz, pa, q2 0, q2 1) (sx xs (y + 1)) (sx xs (y + 2)) (sx xs (y + 3)))), .int (iI (anAdd (g, be, sa, iz, pa, q 0, q 1) (sx xs (y + 1)) (sx xs (y + 2)) (sx xs (y + 3))))]) rfl ?_
  try rw [e0, e1]
  refine g_icmp_eqv X (tgt := 712) dL_law_207 (by decide) ?_
  exact kk M2 Sg2 (opAdd (g, be, sa, iz, pa, q 0, q 1) (sx xs (y + 1)) (sx xs (y + 2)) (sx xs (y + 3))) ⟨hμ, rfl, hSg2, hMd2, hSB2.kept (fun s k hi => hfr2 _ (fun i hi2 => (hsep2 i s k hi2 hi).symm)), add_wf hW (sx xs (y + 1)) (sx xs (y + 2)) (sx xs (y + 3)), iz_add hiz (sx xs (y + 1)) (sx xs (y + 2)) (sx xs (y + 3)), hsep2⟩
set_option maxRecDepth 100000 in
set_option maxHeartbeats 4000000 in
theorem law_c2 {p : Program} {l : Launch} {e : Env} {s : State} {m : MethodId} {args : Array Value} {below : List Frame} {meth : Method} {c : Code} {D : va_G} {ca : Nat → ClassId} {A : Nat → Prop} {Q : State → Prop} {cells slots : Nat} (X : Fx p s m args meth c D ca A 4 cL_law RL) (hcs : cells + 0 ≤ room_1.cells ∧ slots + 0 ≤ room_1.slots) {b LN : Nat} {xs : Nat → Int32} (hX : va_X b LN xs s s.heap) (hbl : b < s.heap.size) (hbA : ¬ A b) (hLN : LN ≤ 2048) {y : Int} (hy0 : 0 ≤ y) (hy4 : y + 4 ≤ LN) {L : List Nat} {M : Mem} {μ : Nat → Nat} {Sg : Int → Int → Nat} {S : AS} {a1 a2 : Nat} (h : LI ca L M μ Sg S a1 a2) (kk : ∀ (M2 : Mem) (Sg2 : Int → Int → Nat) (S2 : AS), LI ca L M2 μ Sg2 S2 a1 a2 → G p l e room_1 s m args below meth c D A 4 Q cells slots L M2 712 [(0, .ref b), (1, .ref a1), (2, .ref a2), (3, .int (iI y))] []) : G p l e room_1 s m args below meth c D A 4 Q cells slots L M 212 [(0, .ref b), (1, .ref a1), (2, .ref a2), (3, .int (iI y))] [] := by
  obtain ⟨g, be, sa, iz, pa, len, st⟩ := S
  obtain ⟨hμ, rfl, rfl, hMd, hSB, hW, hiz, hsep⟩ := h
  obtain ⟨q, sp0, tr0, rd0, hq00, hq10, -⟩ := id hMd
  dsimp only at hq00 hq10
  subst hq00 hq10
  obtain ⟨hin5, fs5, hob5⟩ := hSB.obj
  have hl0 : 0 ≤ q 0 ∧ q 0 ≤ 60 := hW.2.1
  have hs0 : 0 ≤ q 1 ∧ q 1 ≤ 6 := hW.2.2.1
  refine g_aload_n X 1 rfl dL_law_212 rfl ?_
  refine g_callV X (ct_X5_read l Sg g be sa iz pa (q 0) (q 1)) (As := []) (rest := []) cl_X5 rfl ca_X5_read rfl wm_L_23 wi_X5_read ws_X5_read wc_X5_read w0_X5 ⟨by decide, by decide⟩ hin5 hob5 (by decide) hcs rfl dL_law_213 rfl ⟨rfl, hSB, hW⟩ (fun r1 L9 M1 hq => ?_)
  obtain ⟨rfl, rfl, hSo⟩ := hq
  obtain ⟨Sg2, hSB2, hSg2, hMd1, hsep2⟩ := hSo.sep hsep hMd
  obtain ⟨q2, sp, tr, rd, hq0, hq1, m0, m1, m2, m3, m4, m5, m6, m7, m8⟩ := hMd1
  have e0 : q2 0 = q 0 := hq0
  have e1 : q2 1 = q 1 := hq1
  refine g_st (st' := [.int (iI (anRead (g, be, sa, iz, pa, q 0, q 1)))]) rfl ?_
  refine g_aload_n X 2 rfl dL_law_216 rfl ?_
  refine g_callV X (ct_X6_read l μ q2 g sp tr be sa iz rd pa) (As := []) (rest := [.int (iI (anRead (g, be, sa, iz, pa, q 0, q 1)))]) cl_X6 rfl ca_X6_read rfl wm_L_27 wi_X6_read ws_X6_read wc_X6_read w0_X6 ⟨by decide, by decide⟩ (hμ.1 0 (by decide)) m0 (Nat.le_of_ble_eq_true rfl) hcs rfl dL_law_217 rfl ⟨rfl, hμ, m0, m1, m2, m3, m4, m5, m6, m7, m8, hW.1.1, by omega, by omega, hW.2.2.2.1⟩ (fun r2 L9 M2 hq => ?_)
  obtain ⟨rfl, rfl, hMd2, hfr2⟩ := hq
  rw [e0, e1] at hMd2
  refine g_st (st' := [.int (iI (anRead (g, be, sa, iz, pa, q2 0, q2 1))), .int (iI (anRead (g, be, sa, iz, pa, q 0, q 1)))]) rfl ?_
  try rw [e0, e1]
  refine g_icmp_eqv X (tgt := 712) dL_law_220 (by decide) ?_
  exact kk M2 Sg2 (opRead (g, be, sa, iz, pa, q 0, q 1)) ⟨hμ, rfl, hSg2, hMd2, hSB2.kept (fun s k hi => hfr2 _ (fun i hi2 => (hsep2 i s k hi2 hi).symm)), read_wf hW, iz_read hiz, hsep2⟩
set_option maxRecDepth 100000 in
set_option maxHeartbeats 4000000 in
theorem law_c3 {p : Program} {l : Launch} {e : Env} {s : State} {m : MethodId} {args : Array Value} {below : List Frame} {meth : Method} {c : Code} {D : va_G} {ca : Nat → ClassId} {A : Nat → Prop} {Q : State → Prop} {cells slots : Nat} (X : Fx p s m args meth c D ca A 4 cL_law RL) (hcs : cells + 0 ≤ room_1.cells ∧ slots + 0 ≤ room_1.slots) {b LN : Nat} {xs : Nat → Int32} (hX : va_X b LN xs s s.heap) (hbl : b < s.heap.size) (hbA : ¬ A b) (hLN : LN ≤ 2048) {y : Int} (hy0 : 0 ≤ y) (hy4 : y + 4 ≤ LN) {L : List Nat} {M : Mem} {μ : Nat → Nat} {Sg : Int → Int → Nat} {S : AS} {a1 a2 : Nat} (h : LI ca L M μ Sg S a1 a2) (kk : ∀ (M2 : Mem) (Sg2 : Int → Int → Nat) (S2 : AS), LI ca L M2 μ Sg2 S2 a1 a2 → G p l e room_1 s m args below meth c D A 4 Q cells slots L M2 712 [(0, .ref b), (1, .ref a1), (2, .ref a2), (3, .int (iI y))] []) : G p l e room_1 s m args below meth c D A 4 Q cells slots L M 225 [(0, .ref b), (1, .ref a1), (2, .ref a2), (3, .int (iI y))] [] := by
  obtain ⟨g, be, sa, iz, pa, len, st⟩ := S
  obtain ⟨hμ, rfl, rfl, hMd, hSB, hW, hiz, hsep⟩ := h
  obtain ⟨q, sp0, tr0, rd0, hq00, hq10, -⟩ := id hMd
  dsimp only at hq00 hq10
  subst hq00 hq10
  obtain ⟨hin5, fs5, hob5⟩ := hSB.obj
  have hl0 : 0 ≤ q 0 ∧ q 0 ≤ 60 := hW.2.1
  have hs0 : 0 ≤ q 1 ∧ q 1 ≤ 6 := hW.2.2.1
  refine g_aload_n X 1 rfl dL_law_225 rfl ?_
  refine g_aload_n X 0 rfl dL_law_226 rfl ?_
  refine g_iload_n X 3 rfl dL_law_227 rfl ?_
  refine g_iconst X (z := 1) dL_law_228 rfl ?_
  refine g_iadd X dL_law_229 rfl ?_
  refine g_sld X hX hbl hbA hLN ⟨by omega, by omega⟩ dL_law_230 rfl ?_
  refine g_callV X (ct_X5_drop l Sg g be sa iz pa (q 0) (q 1) (sx xs (y + 1))) (As := [.int (iI (sx xs (y + 1)))]) (rest := []) cl_X5 rfl ca_X5_drop rfl wm_L_28 wi_X5_drop ws_X5_drop wc_X5_drop w0_X5 ⟨by decide, by decide⟩ hin5 hob5 (by decide) hcs rfl dL_law_231 rfl ⟨rfl, hSB, hW, (sx_rng _ _)⟩ (fun r1 L9 M1 hq => ?_)
  obtain ⟨rfl, rfl, hSo⟩ := hq
  obtain ⟨Sg2, hSB2, hSg2, hMd1, hsep2⟩ := hSo.sep hsep hMd
  obtain ⟨q2, sp, tr, rd, hq0, hq1, m0, m1, m2, m3, m4, m5, m6, m7, m8⟩ := hMd1
  have e0 : q2 0 = q 0 := hq0
  have e1 : q2 1 = q 1 := hq1
  refine g_st (st' := [.int (iI (anDrop (g, be, sa, iz, pa, q 0, q 1) (sx xs (y + 1))))]) rfl ?_
  refine g_aload_n X 2 rfl dL_law_234 rfl ?_
  refine g_aload_n X 0 rfl dL_law_235 rfl ?_
  refine g_iload_n X 3 rfl dL_law_236 rfl ?_
  refine g_iconst X (z := 1) dL_law_237 rfl ?_
  refine g_iadd X dL_law_238 rfl ?_
  refine g_sld X hX hbl hbA hLN ⟨by omega, by omega⟩ dL_law_239 rfl ?_
  refine g_callV X (ct_X6_drop l μ q2 g sp tr be sa iz rd pa (sx xs (y + 1))) (As := [.int (iI (sx xs (y + 1)))]) (rest := [.int (iI (anDrop (g, be, sa, iz, pa, q 0, q 1) (sx xs (y + 1))))]) cl_X6 rfl ca_X6_drop rfl wm_L_32 wi_X6_drop ws_X6_drop wc_X6_drop w0_X6 ⟨by decide, by decide⟩ (hμ.1 0 (by decide)) m0 (Nat.le_of_ble_eq_true rfl) hcs rfl dL_law_240 rfl ⟨rfl, hμ, m0, m1, m2, m3, m4, m5, m6, m7, m8, hW.1.1, by omega, by omega, (sx_rng _ _)⟩ (fun r2 L9 M2 hq => ?_)
  obtain ⟨rfl, rfl, hMd2, hfr2⟩ := hq
  rw [e0, e1] at hMd2
  refine g_st (st' := [.int (iI (anDrop (g, be, sa, iz, pa, q2 0, q2 1) (sx xs (y + 1)))), .int (iI (anDrop (g, be, sa, iz, pa, q 0, q 1) (sx xs (y + 1))))]) rfl ?_
  try rw [e0, e1]
  refine g_icmp_eqv X (tgt := 712) dL_law_243 (by decide) ?_
  exact kk M2 Sg2 (opDrop (g, be, sa, iz, pa, q 0, q 1) (sx xs (y + 1))) ⟨hμ, rfl, hSg2, hMd2, hSB2.kept (fun s k hi => hfr2 _ (fun i hi2 => (hsep2 i s k hi2 hi).symm)), dropA_wf hW (sx xs (y + 1)), iz_drop hiz (sx xs (y + 1)), hsep2⟩
set_option maxRecDepth 100000 in
set_option maxHeartbeats 4000000 in
theorem law_c4 {p : Program} {l : Launch} {e : Env} {s : State} {m : MethodId} {args : Array Value} {below : List Frame} {meth : Method} {c : Code} {D : va_G} {ca : Nat → ClassId} {A : Nat → Prop} {Q : State → Prop} {cells slots : Nat} (X : Fx p s m args meth c D ca A 4 cL_law RL) (hcs : cells + 0 ≤ room_1.cells ∧ slots + 0 ≤ room_1.slots) {b LN : Nat} {xs : Nat → Int32} (hX : va_X b LN xs s s.heap) (hbl : b < s.heap.size) (hbA : ¬ A b) (hLN : LN ≤ 2048) {y : Int} (hy0 : 0 ≤ y) (hy4 : y + 4 ≤ LN) {L : List Nat} {M : Mem} {μ : Nat → Nat} {Sg : Int → Int → Nat} {S : AS} {a1 a2 : Nat} (h : LI ca L M μ Sg S a1 a2) (kk : ∀ (M2 : Mem) (Sg2 : Int → Int → Nat) (S2 : AS), LI ca L M2 μ Sg2 S2 a1 a2 → G p l e room_1 s m args below meth c D A 4 Q cells slots L M2 712 [(0, .ref b), (1, .ref a1), (2, .ref a2), (3, .int (iI y))] []) : G p l e room_1 s m args below meth c D A 4 Q cells slots L M 248 [(0, .ref b), (1, .ref a1), (2, .ref a2), (3, .int (iI y))] [] := by
  obtain ⟨g, be, sa, iz, pa, len, st⟩ := S
  obtain ⟨hμ, rfl, rfl, hMd, hSB, hW, hiz, hsep⟩ := h
  obtain ⟨q, sp0, tr0, rd0, hq00, hq10, -⟩ := id hMd
  dsimp only at hq00 hq10
  subst hq00 hq10
  obtain ⟨hin5, fs5, hob5⟩ := hSB.obj
  have hl0 : 0 ≤ q 0 ∧ q 0 ≤ 60 := hW.2.1
  have hs0 : 0 ≤ q 1 ∧ q 1 ≤ 6 := hW.2.2.1
  refine g_aload_n X 1 rfl dL_law_248 rfl ?_
  refine g_aload_n X 0 rfl dL_law_249 rfl ?_
  refine g_iload_n X 3 rfl dL_law_250 rfl ?_
  refine g_iconst X (z := 1) dL_law_251 rfl ?_
  refine g_iadd X dL_law_252 rfl ?_
  refine g_sld X hX hbl hbA hLN ⟨by omega, by omega⟩ dL_law_253 rfl ?_
  refine g_aload_n X 0 rfl dL_law_254 rfl ?_
  refine g_iload_n X 3 rfl dL_law_255 rfl ?_
  refine g_iconst X (z := 2) dL_law_256 rfl ?_
  refine g_iadd X dL_law_257 rfl ?_
  refine g_sld X hX hbl hbA hLN ⟨by omega, by omega⟩ dL_law_258 rfl ?_
  refine g_callV X (ct_X5_stride l Sg g be sa iz pa (q 0) (q 1) (sx xs (y + 1)) (sx xs (y + 2))) (As := [.int (iI (sx xs (y + 1))), .int (iI (sx xs (y + 2)))]) (rest := []) cl_X5 rfl ca_X5_stride rfl wm_L_33 wi_X5_stride ws_X5_stride wc_X5_stride w0_X5 ⟨by decide, by decide⟩ hin5 hob5 (by decide) hcs rfl dL_law_259 rfl ⟨rfl, hSB, hW, (sx_rng _ _), (sx_rng _ _)⟩ (fun r1 L9 M1 hq => ?_)
  obtain ⟨rfl, rfl, hSo⟩ := hq
  obtain ⟨Sg2, hSB2, hSg2, hMd1, hsep2⟩ := hSo.sep hsep hMd
  obtain ⟨q2, sp, tr, rd, hq0, hq1, m0, m1, m2, m3, m4, m5, m6, m7, m8⟩ := hMd1
  have e0 : q2 0 = q 0 := hq0
  have e1 : q2 1 = q 1 := hq1
  refine g_st (st' := [.int (iI (anStride (g, be, sa, iz, pa, q 0, q 1) (sx xs (y + 1)) (sx xs (y + 2))))]) rfl ?_
  refine g_aload_n X 2 rfl dL_law_262 rfl ?_
  refine g_aload_n X 0 rfl dL_law_263 rfl ?_
  refine g_iload_n X 3 rfl dL_law_264 rfl ?_
  refine g_iconst X (z := 1) dL_law_265 rfl ?_
  refine g_iadd X dL_law_266 rfl ?_
  refine g_sld X hX hbl hbA hLN ⟨by omega, by omega⟩ dL_law_267 rfl ?_
  refine g_aload_n X 0 rfl dL_law_268 rfl ?_
  refine g_iload_n X 3 rfl dL_law_269 rfl ?_
  refine g_iconst X (z := 2) dL_law_270 rfl ?_
  refine g_iadd X dL_law_271 rfl ?_
  refine g_sld X hX hbl hbA hLN ⟨by omega, by omega⟩ dL_law_272 rfl ?_
  refine g_callV X (ct_X6_stride l μ q2 g sp tr be sa iz rd pa (sx xs (y + 1)) (sx xs (y + 2))) (As := [.int (iI (sx xs (y + 1))), .int (iI (sx xs (y + 2)))]) (rest := [.int (iI (anStride (g, be, sa, iz, pa, q 0, q 1) (sx xs (y + 1)) (sx xs (y + 2))))]) cl_X6 rfl ca_X6_stride rfl wm_L_36 wi_X6_stride ws_X6_stride wc_X6_stride w0_X6 ⟨by decide, by decide⟩ (hμ.1 0 (by decide)) m0 (Nat.le_of_ble_eq_true rfl) hcs rfl dL_law_273 rfl ⟨rfl, hμ, m0, m1, m2, m3, m4, m5, m6, m7, m8, hW.1.1, by omega, by omega, (sx_rng _ _), (sx_rng _ _)⟩ (fun r2 L9 M2 hq => ?_)
  obtain ⟨rfl, rfl, hMd2, hfr2⟩ := hq
  rw [e0, e1] at hMd2
  refine g_st (st' := [.int (iI (anStride (g, be, sa, iz, pa, q2 0, q2 1) (sx xs (y + 1)) (sx xs (y + 2)))), .int (iI (anStride (g, be, sa, iz, pa, q 0, q 1) (sx xs (y + 1)) (sx xs (y + 2))))]) rfl ?_
  try rw [e0, e1]
  refine g_icmp_eqv X (tgt := 712) dL_law_276 (by decide) ?_
  exact kk M2 Sg2 (opStride (g, be, sa, iz, pa, q 0, q 1) (sx xs (y + 1)) (sx xs (y + 2))) ⟨hμ, rfl, hSg2, hMd2, hSB2.kept (fun s k hi => hfr2 _ (fun i hi2 => (hsep2 i s k hi2 hi).symm)), strideA_wf hW (sx xs (y + 1)) (sx xs (y + 2)), iz_stride hiz (sx xs (y + 1)) (sx xs (y + 2)), hsep2⟩
set_option maxRecDepth 100000 in
set_option maxHeartbeats 4000000 in
theorem law_c5 {p : Program} {l : Launch} {e : Env} {s : State} {m : MethodId} {args : Array Value} {below : List Frame} {meth : Method} {c : Code} {D : va_G} {ca : Nat → ClassId} {A : Nat → Prop} {Q : State → Prop} {cells slots : Nat} (X : Fx p s m args meth c D ca A 4 cL_law RL) (hcs : cells + 0 ≤ room_1.cells ∧ slots + 0 ≤ room_1.slots) {b LN : Nat} {xs : Nat → Int32} (hX : va_X b LN xs s s.heap) (hbl : b < s.heap.size) (hbA : ¬ A b) (hLN : LN ≤ 2048) {y : Int} (hy0 : 0 ≤ y) (hy4 : y + 4 ≤ LN) {L : List Nat} {M : Mem} {μ : Nat → Nat} {Sg : Int → Int → Nat} {S : AS} {a1 a2 : Nat} (h : LI ca L M μ Sg S a1 a2) (kk : ∀ (M2 : Mem) (Sg2 : Int → Int → Nat) (S2 : AS), LI ca L M2 μ Sg2 S2 a1 a2 → G p l e room_1 s m args below meth c D A 4 Q cells slots L M2 712 [(0, .ref b), (1, .ref a1), (2, .ref a2), (3, .int (iI y))] []) : G p l e room_1 s m args below meth c D A 4 Q cells slots L M 281 [(0, .ref b), (1, .ref a1), (2, .ref a2), (3, .int (iI y))] [] := by
  obtain ⟨g, be, sa, iz, pa, len, st⟩ := S
  obtain ⟨hμ, rfl, rfl, hMd, hSB, hW, hiz, hsep⟩ := h
  obtain ⟨q, sp0, tr0, rd0, hq00, hq10, -⟩ := id hMd
  dsimp only at hq00 hq10
  subst hq00 hq10
  obtain ⟨hin5, fs5, hob5⟩ := hSB.obj
  have hl0 : 0 ≤ q 0 ∧ q 0 ≤ 60 := hW.2.1
  have hs0 : 0 ≤ q 1 ∧ q 1 ≤ 6 := hW.2.2.1
  refine g_aload_n X 1 rfl dL_law_281 rfl ?_
  refine g_aload_n X 0 rfl dL_law_282 rfl ?_
  refine g_iload_n X 3 rfl dL_law_283 rfl ?_
  refine g_iconst X (z := 1) dL_law_284 rfl ?_
  refine g_iadd X dL_law_285 rfl ?_
  refine g_sld X hX hbl hbA hLN ⟨by omega, by omega⟩ dL_law_286 rfl ?_
  refine g_callV X (ct_X5_run l Sg g be sa iz pa (q 0) (q 1) (sx xs (y + 1))) (As := [.int (iI (sx xs (y + 1)))]) (rest := []) cl_X5 rfl ca_X5_run rfl wm_L_37 wi_X5_run ws_X5_run wc_X5_run w0_X5 ⟨by decide, by decide⟩ hin5 hob5 (by decide) hcs rfl dL_law_287 rfl ⟨rfl, hSB, hW, (sx_rng _ _)⟩ (fun r1 L9 M1 hq => ?_)
  obtain ⟨rfl, rfl, hSo⟩ := hq
  obtain ⟨Sg2, hSB2, hSg2, hMd1, hsep2⟩ := hSo.sep hsep hMd
  obtain ⟨q2, sp, tr, rd, hq0, hq1, m0, m1, m2, m3, m4, m5, m6, m7, m8⟩ := hMd1
  have e0 : q2 0 = q 0 := hq0
  have e1 : q2 1 = q 1 := hq1
  refine g_st (st' := [.int (iI (anRun (g, be, sa, iz, pa, q 0, q 1) (sx xs (y + 1))))]) rfl ?_
  refine g_aload_n X 2 rfl dL_law_290 rfl ?_
  refine g_aload_n X 0 rfl dL_law_291 rfl ?_
  refine g_iload_n X 3 rfl dL_law_292 rfl ?_
  refine g_iconst X (z := 1) dL_law_293 rfl ?_
  refine g_iadd X dL_law_294 rfl ?_
  refine g_sld X hX hbl hbA hLN ⟨by omega, by omega⟩ dL_law_295 rfl ?_
  refine g_callV X (ct_X6_run l μ q2 g sp tr be sa iz rd pa (sx xs (y + 1))) (As := [.int (iI (sx xs (y + 1)))]) (rest := [.int (iI (anRun (g, be, sa, iz, pa, q 0, q 1) (sx xs (y + 1))))]) cl_X6 rfl ca_X6_run rfl wm_L_40 wi_X6_run ws_X6_run wc_X6_run w0_X6 ⟨by decide, by decide⟩ (hμ.1 0 (by decide)) m0 (Nat.le_of_ble_eq_true rfl) hcs rfl dL_law_296 rfl ⟨rfl, hμ, m0, m1, m2, m3, m4, m5, m6, m7, m8, hW.1.1, by omega, by omega, (sx_rng _ _), hW.1.2.2⟩ (fun r2 L9 M2 hq => ?_)
  obtain ⟨rfl, rfl, hMd2, hfr2⟩ := hq
  rw [e0, e1] at hMd2
  refine g_st (st' := [.int (iI (anRun (g, be, sa, iz, pa, q2 0, q2 1) (sx xs (y + 1)))), .int (iI (anRun (g, be, sa, iz, pa, q 0, q 1) (sx xs (y + 1))))]) rfl ?_
  try rw [e0, e1]
  refine g_icmp_eqv X (tgt := 712) dL_law_299 (by decide) ?_
  exact kk M2 Sg2 (opRun (g, be, sa, iz, pa, q 0, q 1) (sx xs (y + 1))) ⟨hμ, rfl, hSg2, hMd2, hSB2.kept (fun s k hi => hfr2 _ (fun i hi2 => (hsep2 i s k hi2 hi).symm)), run_wf hW (sx xs (y + 1)), iz_run hiz (sx xs (y + 1)), hsep2⟩

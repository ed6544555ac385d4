/-! ===== the law's walk ===== -/
theorem law_end {p : Program} {l : Launch} {e : Env} {s : State} {m : MethodId} {below : List Frame} {meth : Method} {c : Code} {D : va_G} {ca : Nat → ClassId} {cells slots : Nat} {L : List Nat} {b : Nat} (X : Fx p s m #[Value.ref b] meth c D ca (fun q => s.heap.size ≤ q) 9 cL_law RL) (hr : meth.sig.returnType = ret) (hc : cells ≤ 704983 ∧ slots ≤ 6987298) {M : Mem} {lv : List (Nat × Value)} : G p l e room_1 s m #[Value.ref b] below meth c D (fun q => s.heap.size ≤ q) 9 (lw_Z below #[Value.ref b] s) cells slots L M 358 lv [.int (iI 1)] := by
  intro H locs ls hP hD hS hl
  refine va_forget (fun q hq => hS.2.2 q hq) ?_
  refine W.widen (k := 704983) (n := 6987298) hc.1 hc.2 ?_
  rw [show iI 1 = (1 : Int32) from by decide +kernel]
  exact lw_ret X.1.1 X.1.2.1 hr X.2.2.2.2.2 dL_law_358
set_option maxRecDepth 100000 in
set_option maxHeartbeats 4000000 in
theorem law_278 {p : Program} {l : Launch} {e : Env} {s : State} {m : MethodId} {below : List Frame} {meth : Method} {c : Code} {D : va_G} {ca : Nat → ClassId} {cells slots : Nat} {L : List Nat} {b o : Nat} (X : Fx p s m #[Value.ref b] meth c D ca (fun q => s.heap.size ≤ q) 9 cL_law RL) (hr : meth.sig.returnType = ret) (hc : cells ≤ 704983 ∧ slots ≤ 6987298) {M : Mem} {S : AS} {g : Int → Int} {r T : Int} (hO : OB ca L M o S) (hPA : PA T S) (hsa : S.2.2.1 = fun k => g (k - 110)) (hz : S.2.2.2.1 1 = 1) (hg4 : 0 ≤ g 4 ∧ g 4 ≤ 99999) (hrr : 0 ≤ r ∧ r ≤ 20000) (hre : r = roC 20000 g) (hw : 0 ≤ wlG g ∧ wlG g ≤ 800) (hend : wlG S.1 = 0) (hst : wlG g = 0 ∨ 1 ≤ S.2.2.2.2.2.2) : G p l e room_1 s m #[Value.ref b] below meth c D (fun q => s.heap.size ≤ q) 9 (lw_Z below #[Value.ref b] s) cells slots L M 278 [(0, .ref b), (1, .ref o), (2, .int (iI 1)), (3, .int (iI (g 4))), (4, .int (iI r)), (5, .int (iI (wlG g))), (6, .int (iI (wlG g)))] [] := by
  have hW := hPA.1
  have tail : ∀ (S2 : AS) (M2 : Mem), OB ca L M2 o S2 → WfA S2 → (S2.2.2.1 = fun k => g (k - 110)) → S2.2.2.2.1 1 = 1 → G p l e room_1 s m #[Value.ref b] below meth c D (fun q => s.heap.size ≤ q) 9 (lw_Z below #[Value.ref b] s) cells slots L M2 317 [(0, .ref b), (1, .ref o), (2, .int (iI 1)), (3, .int (iI (g 4))), (4, .int (iI r)), (5, .int (iI (wlG g)))] [] := fun S2 M2 hO2 hW2 hsa hz => by
    obtain ⟨S3, hS3⟩ : ∃ x : AS, x = opRestore S2 1 := ⟨_, rfl⟩
    obtain ⟨f1, f2, hW3, f4⟩ := act_restore hW2 hsa hz hS3
    have u3 := (act_undo hW3 f4 rfl).1
    refine g_aload_n X 1 rfl dL_law_317 rfl ?_
    refine g_iconst X (z := 1) dL_law_318 rfl ?_
    refine k_call X (v := g 4) (fun Sg => kt_restore l Sg S2 1) (As := [.int (iI 1)]) (rest := []) rfl ca_X5_restore rfl wm_L_55 wi_X5_restore ws_X5_restore wc_X5_restore ⟨by decide, by decide⟩ (by decide) hc rfl dL_law_319 rfl hO2 ⟨hW2, ⟨by decide, by decide⟩⟩ f1 (fun M_2 hO_1 => ?_)
    rw [← hS3] at hO_1
    refine g_iload_n X 3 rfl dL_law_322 rfl ?_
    refine g_icmp_ne X ⟨by omega, by omega⟩ ⟨by omega, by omega⟩ (tgt := 357) dL_law_323 (by decide) rfl (fun h_3 => ?_) (fun h_3 => ?_)
    · exfalso
      omega
    · refine g_aload_n X 1 rfl dL_law_326 rfl ?_
      refine g_bipush X (z := 6) (by decide +kernel) dL_law_327 rfl ?_
      refine k_call X (v := wlG g) (fun Sg => kt_count l Sg S3 6) (As := [.int (iI 6)]) (rest := []) rfl ca_X5_count rfl wm_L_9 wi_X5_count ws_X5_count wc_X5_count ⟨by decide, by decide⟩ (by decide) hc rfl dL_law_329 rfl hO_1 ⟨hW3, ⟨by decide, by decide⟩⟩ ((c_6 S3).trans (congrArg wlG f2)) (fun M_5 hO_4 => ?_)
      refine g_iload X 5 rfl dL_law_332 rfl ?_
      refine g_icmp_ne X ⟨by omega, by omega⟩ ⟨by omega, by omega⟩ (tgt := 357) dL_law_334 (by decide) rfl (fun h_6 => ?_) (fun h_6 => ?_)
      · exfalso
        omega
      · refine g_aload_n X 1 rfl dL_law_337 rfl ?_
        refine k_call X (v := r) (fun Sg => kt_untilDone l Sg S3) (As := []) (rest := []) rfl ca_X5_untilDone rfl wm_L_44 wi_X5_untilDone ws_X5_untilDone wc_X5_untilDone ⟨by decide, by decide⟩ (by decide) hc rfl dL_law_338 rfl hO_4 hW3 (by rw [f2]; exact hre.symm) (fun M_8 hO_7 => ?_)
        refine g_iload X 4 rfl dL_law_341 rfl ?_
        refine g_icmp_ne X ⟨by omega, by omega⟩ ⟨by omega, by omega⟩ (tgt := 357) dL_law_343 (by decide) rfl (fun h_9 => ?_) (fun h_9 => ?_)
        · exfalso
          omega
        · refine g_aload_n X 1 rfl dL_law_346 rfl ?_
          refine k_call X (v := anUndo S3) (fun Sg => kt_undo l Sg S3) (As := []) (rest := []) rfl ca_X5_undo rfl wm_L_52 wi_X5_undo ws_X5_undo wc_X5_undo ⟨by decide, by decide⟩ (by decide) hc rfl dL_law_347 rfl hO_7 hW3 rfl (fun M_11 hO_10 => ?_)
          refine g_if_lt X ⟨by omega, by omega⟩ (tgt := 357) dL_law_350 (by decide) rfl (fun h_12 => ?_) (fun h_12 => ?_)
          · exfalso
            omega
          · refine g_iconst X (z := 1) dL_law_353 rfl ?_
            refine g_goto X (n := 358) dL_law_354 (by decide) ?_
            exact law_end X hr hc
  refine g_iload_n X 2 rfl dL_law_278 rfl ?_
  refine g_if_eq X ⟨by decide, by decide⟩ (tgt := 357) dL_law_279 (by decide) rfl (fun h => absurd h (by decide)) (fun _ => ?_)
  refine g_iload X 6 rfl dL_law_282 rfl ?_
  refine g_iload X 5 rfl dL_law_284 rfl ?_
  refine g_icmp_ne X ⟨by omega, by omega⟩ ⟨by omega, by omega⟩ (tgt := 357) dL_law_286 (by decide) rfl (fun h_2 => ?_) (fun h_2 => ?_)
  · exfalso
    omega
  · refine g_aload_n X 1 rfl dL_law_289 rfl ?_
    refine g_bipush X (z := 6) (by decide +kernel) dL_law_290 rfl ?_
    refine k_call X (v := wlG S.1) (fun Sg => kt_count l Sg S 6) (As := [.int (iI 6)]) (rest := []) rfl ca_X5_count rfl wm_L_9 wi_X5_count ws_X5_count wc_X5_count ⟨by decide, by decide⟩ (by decide) hc rfl dL_law_292 rfl hO ⟨hW, ⟨by decide, by decide⟩⟩ (c_6 S) (fun M_4 hO_3 => ?_)
    refine g_if_ne X ⟨by omega, by omega⟩ (tgt := 357) dL_law_295 (by decide) rfl (fun h_5 => ?_) (fun h_5 => ?_)
    · exfalso
      omega
    · refine g_aload_n X 1 rfl dL_law_298 rfl ?_
      refine g_callS X (ct_L_areSums l o S _) (As := [.ref o]) (rest := []) rfl ca_L_areSums rfl wm_L_68 wt_L_areSums wc_L_areSums w0_L ⟨by decide, by decide⟩ (by decide) hc rfl dL_law_299 rfl ⟨rfl, hO_3, hPA⟩ (fun r1 L9 M_6 hq => ?_)
      obtain ⟨rfl, rfl, hO_6⟩ := hq
      refine g_st (st' := [.int (iI 1)]) rfl ?_
      refine g_if_eq X ⟨by decide, by decide⟩ (tgt := 357) dL_law_302 (by decide) rfl (fun h => absurd h (by decide)) (fun _ => ?_)
      refine g_iload X 5 rfl dL_law_305 rfl ?_
      refine g_if_eq X ⟨by omega, by omega⟩ (tgt := 317) dL_law_307 (by decide) rfl (fun h_8 => ?_) (fun h_8 => ?_)
      · refine g_lv (lv' := [(0, .ref b), (1, .ref o), (2, .int (iI 1)), (3, .int (iI (g 4))), (4, .int (iI r)), (5, .int (iI (wlG g)))]) [0, 1, 2, 3, 4, 5] rfl ?_
        exact tail S _ hO_6 hW hsa hz
      · obtain ⟨un, hun⟩ : ∃ un : Int, un = anUndo S := ⟨_, rfl⟩
        have u0 := (act_undo hW (by omega) rfl).1
        rw [← hun] at u0
        refine g_aload_n X 1 rfl dL_law_310 rfl ?_
        refine k_call X (v := un) (fun Sg => kt_undo l Sg S) (As := []) (rest := []) rfl ca_X5_undo rfl wm_L_52 wi_X5_undo ws_X5_undo wc_X5_undo ⟨by decide, by decide⟩ (by decide) hc rfl dL_law_311 rfl hO_6 hW hun.symm (fun M_10 hO_9 => ?_)
        obtain ⟨S2, hS2⟩ : ∃ x : AS, x = opUndo S := ⟨_, rfl⟩
        rw [← hS2] at hO_9
        obtain ⟨u1, hKS, hW2⟩ := act_undo hW (by omega) hS2
        refine g_if_lt X ⟨by omega, by omega⟩ (tgt := 357) dL_law_314 (by decide) rfl (fun h_11 => ?_) (fun h_11 => ?_)
        · exfalso
          omega
        · refine g_lv (lv' := [(0, .ref b), (1, .ref o), (2, .int (iI 1)), (3, .int (iI (g 4))), (4, .int (iI r)), (5, .int (iI (wlG g)))]) [0, 1, 2, 3, 4, 5] rfl ?_
          exact tail S2 _ hO_9 hW2 (hKS.1.trans hsa) (by rw [hKS.2]; exact hz)
set_option maxRecDepth 100000 in
set_option maxHeartbeats 4000000 in
theorem law_208 {p : Program} {l : Launch} {e : Env} {s : State} {m : MethodId} {below : List Frame} {meth : Method} {c : Code} {D : va_G} {ca : Nat → ClassId} {cells slots : Nat} {L : List Nat} {b o : Nat} (X : Fx p s m #[Value.ref b] meth c D ca (fun q => s.heap.size ≤ q) 9 cL_law RL) (hr : meth.sig.returnType = ret) (hc : cells ≤ 704983 ∧ slots ≤ 6987298) {S0 : AS} {g : Int → Int} {r : Int} (hPA0 : PA 2400 S0) (hg : S0.1 = g) (hsa : S0.2.2.1 = fun k => g (k - 110)) (hz : S0.2.2.2.1 1 = 1) (hre : r = roC 20000 S0.1) : ∀ (n j : Nat) (k d : Int) (S : AS) (M : Mem), OB ca L M o S → PA (2400 + j) S → KS S0 S → 0 ≤ k → k ≤ r + 500 → ((k ≤ r ∧ j = k) ∨ (r ≤ k ∧ j = r)) → S.1 = itG S0.1 j → d = itR S0.1 j → (j = 0 ∨ 1 ≤ S.2.2.2.2.2.2) → r - k < (n : Int) → G p l e room_1 s m #[Value.ref b] below meth c D (fun q => s.heap.size ≤ q) 9 (lw_Z below #[Value.ref b] s) cells slots L M 208 [(0, .ref b), (1, .ref o), (2, .int (iI 1)), (3, .int (iI (g 4))), (4, .int (iI r)), (5, .int (iI (wlG g))), (6, .int (iI d)), (7, .int (iI k))] [] := by
  obtain ⟨⟨r0, r1⟩, rz, rb, ra, re⟩ := rest_ok hPA0 (by decide) hre
  have hw0 := wlG_nn hPA0.I
  have s40 := hPA0.S.2.2.2.2.1
  have h24 := hPA0.2.2
  intro n
  induction n with
  | zero =>
    intro j k d S M hO hPA hKS k0 k1 hj hj1 hd hh hm
    have hW := hPA.1
    have l0 := wlG_nn hPA.I
    have hw1 : 0 ≤ wlG g ∧ wlG g ≤ 800 := by rw [← hg]; exact hw0
    have hg40 : 0 ≤ g 4 ∧ g 4 ≤ 2400 := by rw [← hg]; omega
    have rz2 : r = 0 ↔ wlG g = 0 := by rw [← hg]; exact rz
    refine g_iload X 7 rfl dL_law_208 rfl ?_
    refine g_iload X 4 rfl dL_law_210 rfl ?_
    refine g_icmp_ge X ⟨by omega, by omega⟩ ⟨by omega, by omega⟩ (tgt := 278) dL_law_212 (by decide) rfl (fun h_1 => ?_) (fun h_1 => ?_)
    · have hjr : j = r.toNat := by omega
      have ed : d = wlG g := by rw [hd, hjr, ra, hg]
      subst ed
      refine g_lv (lv' := [(0, .ref b), (1, .ref o), (2, .int (iI 1)), (3, .int (iI (g 4))), (4, .int (iI r)), (5, .int (iI (wlG g))), (6, .int (iI (wlG g)))]) [0, 1, 2, 3, 4, 5, 6] rfl ?_
      exact law_278 (S := S) (g := g) X hr hc hO hPA (by rw [hKS.1]; exact hsa) (by rw [hKS.2]; exact hz) (by omega) ⟨r0, r1⟩ (by rw [← hg]; exact hre) (by omega) (by rw [hj1, hjr, re]) (by omega)
    · exfalso
      omega
  | succ n ih =>
    intro j k d S M hO hPA hKS k0 k1 hj hj1 hd hh hm
    have hW := hPA.1
    have l0 := wlG_nn hPA.I
    have hw1 : 0 ≤ wlG g ∧ wlG g ≤ 800 := by rw [← hg]; exact hw0
    have hg40 : 0 ≤ g 4 ∧ g 4 ≤ 2400 := by rw [← hg]; omega
    have rz2 : r = 0 ↔ wlG g = 0 := by rw [← hg]; exact rz
    refine g_iload X 7 rfl dL_law_208 rfl ?_
    refine g_iload X 4 rfl dL_law_210 rfl ?_
    refine g_icmp_ge X ⟨by omega, by omega⟩ ⟨by omega, by omega⟩ (tgt := 278) dL_law_212 (by decide) rfl (fun h_1 => ?_) (fun h_1 => ?_)
    · have hjr : j = r.toNat := by omega
      have ed : d = wlG g := by rw [hd, hjr, ra, hg]
      subst ed
      refine g_lv (lv' := [(0, .ref b), (1, .ref o), (2, .int (iI 1)), (3, .int (iI (g 4))), (4, .int (iI r)), (5, .int (iI (wlG g))), (6, .int (iI (wlG g)))]) [0, 1, 2, 3, 4, 5, 6] rfl ?_
      exact law_278 (S := S) (g := g) X hr hc hO hPA (by rw [hKS.1]; exact hsa) (by rw [hKS.2]; exact hz) (by omega) ⟨r0, r1⟩ (by rw [← hg]; exact hre) (by omega) (by rw [hj1, hjr, re]) (by omega)
    · refine g_iload_n X 2 rfl dL_law_215 rfl ?_
      refine g_if_eq X ⟨by decide, by decide⟩ (tgt := 278) dL_law_216 (by decide) rfl (fun h => absurd h (by decide)) (fun _ => ?_)
      refine g_iload X 4 rfl dL_law_219 rfl ?_
      refine g_iload X 7 rfl dL_law_221 rfl ?_
      refine g_isub X dL_law_223 rfl ?_
      refine g_sipush X (z := 500) (by decide +kernel) dL_law_224 rfl ?_
      refine g_icmp_ge X ⟨by omega, by omega⟩ ⟨by decide, by decide⟩ (tgt := 238) dL_law_227 (by decide) rfl (fun h_3 => ?_) (fun h_3 => ?_)
      · refine g_sipush X (z := 500) (by decide +kernel) dL_law_238 rfl ?_
        have hjk : (j : Int) = k := by omega
        have hv : (1 : Int) ≤ 500 ∧ (500 : Int) ≤ 500 := by omega
        have hpos : 0 < wlG S.1 := by rw [hj1]; exact rb j (by omega)
        refine g_istore X (lv' := [(8, .int (iI 500)), (0, .ref b), (1, .ref o), (2, .int (iI 1)), (3, .int (iI (g 4))), (4, .int (iI r)), (5, .int (iI (wlG g))), (6, .int (iI d)), (7, .int (iI k))]) (by decide) rfl dL_law_241 rfl ?_
        refine g_aload_n X 2 rfl dL_law_243 rfl ?_
        refine g_bipush X (z := 6) (by decide +kernel) dL_law_244 rfl ?_
        refine k_call X (v := wlG S.1) (fun Sg => kt_count l Sg S 6) (As := [.int (iI 6)]) (rest := []) rfl ca_X5_count rfl wm_L_9 wi_X5_count ws_X5_count wc_X5_count ⟨by decide, by decide⟩ (by decide) hc rfl dL_law_246 rfl hO ⟨hW, ⟨by decide, by decide⟩⟩ (c_6 S) (fun M_5 hO_4 => ?_)
        refine g_if_le X ⟨by omega, by omega⟩ (tgt := 256) dL_law_249 (by decide) rfl (fun h_6 => ?_) (fun h_6 => ?_)
        · exfalso
          omega
        · refine g_iconst X (z := 1) dL_law_252 rfl ?_
          refine g_goto X (n := 257) dL_law_253 (by decide) ?_
          refine g_istore_n X (lv' := [(2, .int (iI 1)), (8, .int (iI 500)), (0, .ref b), (1, .ref o), (3, .int (iI (g 4))), (4, .int (iI r)), (5, .int (iI (wlG g))), (6, .int (iI d)), (7, .int (iI k))]) (by decide) rfl dL_law_257 rfl ?_
          refine g_iload X 7 rfl dL_law_258 rfl ?_
          refine g_aload_n X 3 rfl dL_law_260 rfl ?_
          refine g_iload X 1 rfl dL_law_261 rfl ?_
          refine k_call X (v := itR S.1 (500 : Int).toNat) (fun Sg => kt_run l Sg S 500) (As := [.int (iI 500)]) (rest := [.int (iI d)]) rfl ca_X5_run rfl wm_L_29 wi_X5_run ws_X5_run wc_X5_run ⟨by decide, by decide⟩ (Nat.le_of_ble_eq_true rfl) hc rfl dL_law_263 rfl hO_4 ⟨hW, ⟨by decide, by decide⟩⟩ (act_run hPA hv (by omega) rfl).1 (fun M_8 hO_7 => ?_)
          obtain ⟨S2, hS2⟩ : ∃ x : AS, x = opRun S (500 : Int) := ⟨_, rfl⟩
          rw [← hS2] at hO_7
          obtain ⟨-, hPA2, hKS2, e4, e5, e7, er, ew, e1, eh⟩ := act_run hPA hv (by omega) hS2
          have hW2 := hPA2.1
          refine g_iadd X dL_law_266 rfl ?_
          refine g_istore X (lv' := [(6, .int (iI (d + itR S.1 (500 : Int).toNat))), (2, .int (iI 1)), (8, .int (iI 500)), (0, .ref b), (1, .ref o), (3, .int (iI (g 4))), (4, .int (iI r)), (5, .int (iI (wlG g))), (7, .int (iI k))]) (by decide) rfl dL_law_267 rfl ?_
          refine g_iincW X (lv' := [(7, .int (iI (k + 500))), (6, .int (iI (d + itR S.1 (500 : Int).toNat))), (2, .int (iI 1)), (8, .int (iI 500)), (0, .ref b), (1, .ref o), (3, .int (iI (g 4))), (4, .int (iI r)), (5, .int (iI (wlG g)))]) 8 rfl (by decide) rfl dL_law_269 rfl ?_
          refine g_goto X (n := 208) dL_law_275 (by decide) ?_
          obtain ⟨ia, ib⟩ := it_add S0.1 j (500 : Int).toNat
          refine g_lv (lv' := [(0, .ref b), (1, .ref o), (2, .int (iI 1)), (3, .int (iI (g 4))), (4, .int (iI r)), (5, .int (iI (wlG g))), (6, .int (iI (d + itR S.1 (500 : Int).toNat))), (7, .int (iI (k + 500)))]) [4, 5, 2, 6, 7, 8, 1, 0] rfl ?_
          exact ih (j + (500 : Int).toNat) _ _ S2 _ hO_7 (hPA2.up1 (by omega)) (hKS.tr hKS2) (by omega) (by omega) (by omega) (by rw [e1, hj1, ia]) (by rw [hd, ib, hj1]) (Or.inr eh.1) (by omega)
      · refine g_iload X 4 rfl dL_law_230 rfl ?_
        refine g_iload X 7 rfl dL_law_232 rfl ?_
        refine g_isub X dL_law_234 rfl ?_
        refine g_goto X (n := 241) dL_law_235 (by decide) ?_
        have hjk : (j : Int) = k := by omega
        have hv : (1 : Int) ≤ r - k ∧ (r - k : Int) ≤ 500 := by omega
        have hpos : 0 < wlG S.1 := by rw [hj1]; exact rb j (by omega)
        refine g_istore X (lv' := [(8, .int (iI (r - k))), (0, .ref b), (1, .ref o), (2, .int (iI 1)), (3, .int (iI (g 4))), (4, .int (iI r)), (5, .int (iI (wlG g))), (6, .int (iI d)), (7, .int (iI k))]) (by decide) rfl dL_law_241 rfl ?_
        refine g_aload_n X 2 rfl dL_law_243 rfl ?_
        refine g_bipush X (z := 6) (by decide +kernel) dL_law_244 rfl ?_
        refine k_call X (v := wlG S.1) (fun Sg => kt_count l Sg S 6) (As := [.int (iI 6)]) (rest := []) rfl ca_X5_count rfl wm_L_9 wi_X5_count ws_X5_count wc_X5_count ⟨by decide, by decide⟩ (by decide) hc rfl dL_law_246 rfl hO ⟨hW, ⟨by decide, by decide⟩⟩ (c_6 S) (fun M_10 hO_9 => ?_)
        refine g_if_le X ⟨by omega, by omega⟩ (tgt := 256) dL_law_249 (by decide) rfl (fun h_11 => ?_) (fun h_11 => ?_)
        · exfalso
          omega
        · refine g_iconst X (z := 1) dL_law_252 rfl ?_
          refine g_goto X (n := 257) dL_law_253 (by decide) ?_
          refine g_istore_n X (lv' := [(2, .int (iI 1)), (8, .int (iI (r - k))), (0, .ref b), (1, .ref o), (3, .int (iI (g 4))), (4, .int (iI r)), (5, .int (iI (wlG g))), (6, .int (iI d)), (7, .int (iI k))]) (by decide) rfl dL_law_257 rfl ?_
          refine g_iload X 7 rfl dL_law_258 rfl ?_
          refine g_aload_n X 3 rfl dL_law_260 rfl ?_
          refine g_iload X 1 rfl dL_law_261 rfl ?_
          refine k_call X (v := itR S.1 (r - k : Int).toNat) (fun Sg => kt_run l Sg S (r - k)) (As := [.int (iI (r - k))]) (rest := [.int (iI d)]) rfl ca_X5_run rfl wm_L_29 wi_X5_run ws_X5_run wc_X5_run ⟨by decide, by decide⟩ (Nat.le_of_ble_eq_true rfl) hc rfl dL_law_263 rfl hO_9 ⟨hW, ⟨by omega, by omega⟩⟩ (act_run hPA hv (by omega) rfl).1 (fun M_13 hO_12 => ?_)
          obtain ⟨S2, hS2⟩ : ∃ x : AS, x = opRun S (r - k : Int) := ⟨_, rfl⟩
          rw [← hS2] at hO_12
          obtain ⟨-, hPA2, hKS2, e4, e5, e7, er, ew, e1, eh⟩ := act_run hPA hv (by omega) hS2
          have hW2 := hPA2.1
          refine g_iadd X dL_law_266 rfl ?_
          refine g_istore X (lv' := [(6, .int (iI (d + itR S.1 (r - k : Int).toNat))), (2, .int (iI 1)), (8, .int (iI (r - k))), (0, .ref b), (1, .ref o), (3, .int (iI (g 4))), (4, .int (iI r)), (5, .int (iI (wlG g))), (7, .int (iI k))]) (by decide) rfl dL_law_267 rfl ?_
          refine g_iincW X (lv' := [(7, .int (iI (k + 500))), (6, .int (iI (d + itR S.1 (r - k : Int).toNat))), (2, .int (iI 1)), (8, .int (iI (r - k))), (0, .ref b), (1, .ref o), (3, .int (iI (g 4))), (4, .int (iI r)), (5, .int (iI (wlG g)))]) 8 rfl (by decide) rfl dL_law_269 rfl ?_
          refine g_goto X (n := 208) dL_law_275 (by decide) ?_
          obtain ⟨ia, ib⟩ := it_add S0.1 j (r - k : Int).toNat
          refine g_lv (lv' := [(0, .ref b), (1, .ref o), (2, .int (iI 1)), (3, .int (iI (g 4))), (4, .int (iI r)), (5, .int (iI (wlG g))), (6, .int (iI (d + itR S.1 (r - k : Int).toNat))), (7, .int (iI (k + 500)))]) [4, 5, 2, 6, 7, 8, 1, 0] rfl ?_
          exact ih (j + (r - k : Int).toNat) _ _ S2 _ hO_12 (hPA2.up1 (by omega)) (hKS.tr hKS2) (by omega) (by omega) (by omega) (by rw [e1, hj1, ia]) (by rw [hd, ib, hj1]) (Or.inr eh.1) (by omega)
set_option maxRecDepth 100000 in
set_option maxHeartbeats 4000000 in
theorem law_133 {p : Program} {l : Launch} {e : Env} {s : State} {m : MethodId} {below : List Frame} {meth : Method} {c : Code} {D : va_G} {ca : Nat → ClassId} {cells slots : Nat} {L : List Nat} {b o : Nat} (X : Fx p s m #[Value.ref b] meth c D ca (fun q => s.heap.size ≤ q) 9 cL_law RL) (hr : meth.sig.returnType = ret) (hc : cells ≤ 704983 ∧ slots ≤ 6987298) {M : Mem} {S : AS} (hO : OB ca L M o S) (hPA : PA 2400 S) (h0 : S.2.2.2.1 0 = 0) : G p l e room_1 s m #[Value.ref b] below meth c D (fun q => s.heap.size ≤ q) 9 (lw_Z below #[Value.ref b] s) cells slots L M 133 [(0, .ref b), (1, .ref o), (2, .int (iI 1))] [] := by
  have hW := hPA.1
  have s4 := hPA.S.2.2.2.2.1
  have h24 := hPA.2.2
  have hw := wlG_nn hPA.I
  obtain ⟨sv1, sv2, sv3⟩ := act_save hPA h0
  obtain ⟨S1, hS1⟩ : ∃ x : AS, x = svS S := ⟨_, rfl⟩
  rw [← hS1] at sv3
  have hPA1 := sv3
  have hW1 := hPA1.1
  have hg1 : S1.1 = S.1 := by rw [hS1]; rfl
  obtain ⟨r, hre⟩ : ∃ r : Int, r = roC 20000 S.1 := ⟨_, rfl⟩
  obtain ⟨⟨r0, r1⟩, rz, -⟩ := rest_ok hPA (by decide) hre
  refine g_aload_n X 1 rfl dL_law_133 rfl ?_
  refine g_iconst X (z := 1) dL_law_134 rfl ?_
  refine k_call X (v := S.1 4) (fun Sg => kt_save l Sg S 1) (As := [.int (iI 1)]) (rest := []) rfl ca_X5_save rfl wm_L_75 wi_X5_save ws_X5_save wc_X5_save ⟨by decide, by decide⟩ (by decide) hc rfl dL_law_135 rfl hO ⟨hW, ⟨by decide, by decide⟩⟩ sv1 (fun M_2 hO_1 => ?_)
  have hO_1b := sv2 hO_1
  rw [← hS1] at hO_1b
  refine g_istore_n X (lv' := [(3, .int (iI (S.1 4))), (0, .ref b), (1, .ref o), (2, .int (iI 1))]) (by decide) rfl dL_law_138 rfl ?_
  refine g_aload_n X 2 rfl dL_law_139 rfl ?_
  refine k_call X (v := r) (fun Sg => kt_untilDone l Sg S1) (As := []) (rest := []) rfl ca_X5_untilDone rfl wm_L_44 wi_X5_untilDone ws_X5_untilDone wc_X5_untilDone ⟨by decide, by decide⟩ (by decide) hc rfl dL_law_140 rfl hO_1b hW1 (by rw [hg1]; exact hre.symm) (fun M_4 hO_3 => ?_)
  refine g_istore X (lv' := [(4, .int (iI r)), (3, .int (iI (S.1 4))), (0, .ref b), (1, .ref o), (2, .int (iI 1))]) (by decide) rfl dL_law_143 rfl ?_
  refine g_aload_n X 3 rfl dL_law_145 rfl ?_
  refine g_bipush X (z := 6) (by decide +kernel) dL_law_146 rfl ?_
  refine k_call X (v := wlG S.1) (fun Sg => kt_count l Sg S1 6) (As := [.int (iI 6)]) (rest := []) rfl ca_X5_count rfl wm_L_9 wi_X5_count ws_X5_count wc_X5_count ⟨by decide, by decide⟩ (by decide) hc rfl dL_law_148 rfl hO_3 ⟨hW1, ⟨by decide, by decide⟩⟩ ((c_6 S1).trans (congrArg wlG hg1)) (fun M_6 hO_5 => ?_)
  refine g_istore X (lv' := [(5, .int (iI (wlG S.1))), (4, .int (iI r)), (3, .int (iI (S.1 4))), (0, .ref b), (1, .ref o), (2, .int (iI 1))]) (by decide) rfl dL_law_151 rfl ?_
  refine g_iconst X (z := 0) dL_law_153 rfl ?_
  refine g_istore X (lv' := [(6, .int (iI 0)), (5, .int (iI (wlG S.1))), (4, .int (iI r)), (3, .int (iI (S.1 4))), (0, .ref b), (1, .ref o), (2, .int (iI 1))]) (by decide) rfl dL_law_154 rfl ?_
  refine g_iload_n X 6 rfl dL_law_156 rfl ?_
  refine g_if_eq X ⟨by decide, by decide⟩ (tgt := 203) dL_law_157 (by decide) rfl (fun h => absurd h (by decide)) (fun _ => ?_)
  refine g_aload_n X 5 rfl dL_law_160 rfl ?_
  refine g_callS X (ct_L_areSums l o S1 _) (As := [.ref o]) (rest := []) rfl ca_L_areSums rfl wm_L_68 wt_L_areSums wc_L_areSums w0_L ⟨by decide, by decide⟩ (by decide) hc rfl dL_law_161 rfl ⟨rfl, hO_5, hPA1⟩ (fun r1 L9 M_8 hq => ?_)
  obtain ⟨rfl, rfl, hO_8⟩ := hq
  refine g_st (st' := [.int (iI 1)]) rfl ?_
  refine g_if_eq X ⟨by decide, by decide⟩ (tgt := 203) dL_law_164 (by decide) rfl (fun h => absurd h (by decide)) (fun _ => ?_)
  refine g_iload_n X 3 rfl dL_law_167 rfl ?_
  refine g_aload_n X 5 rfl dL_law_168 rfl ?_
  refine g_iconst X (z := 4) dL_law_169 rfl ?_
  refine k_call X (v := S.1 4) (fun Sg => kt_count l Sg S1 4) (As := [.int (iI 4)]) (rest := [.int (iI (S.1 4))]) rfl ca_X5_count rfl wm_L_9 wi_X5_count ws_X5_count wc_X5_count ⟨by decide, by decide⟩ (Nat.le_of_ble_eq_true rfl) hc rfl dL_law_170 rfl hO_8 ⟨hW1, ⟨by decide, by decide⟩⟩ ((c_low S1 (by decide)).trans (congrFun hg1 4)) (fun M_11 hO_10 => ?_)
  refine g_icmp_ne X ⟨by omega, by omega⟩ ⟨by omega, by omega⟩ (tgt := 203) dL_law_173 (by decide) rfl (fun h_12 => ?_) (fun h_12 => ?_)
  · exfalso
    omega
  · refine g_iload X 2 rfl dL_law_176 rfl ?_
    refine g_dia X (n := 181) (tgt := 185) (J := 186) (C0 := r ≠ 0) (fun kt kf => g_if_ne X ⟨by omega, by omega⟩ (tgt := 185) dL_law_178 (by decide) rfl kt kf) dL_law_181 dL_law_182 (by decide) dL_law_185 rfl ?_
    refine g_iload X 1 rfl dL_law_186 rfl ?_
    refine g_dia X (n := 191) (tgt := 195) (J := 196) (C0 := wlG S.1 ≠ 0) (fun kt kf => g_if_ne X ⟨by omega, by omega⟩ (tgt := 195) dL_law_188 (by decide) rfl kt kf) dL_law_191 dL_law_192 (by decide) dL_law_195 rfl ?_
    refine g_icmp_ne X ⟨by omega, by omega⟩ ⟨by omega, by omega⟩ (tgt := 203) dL_law_196 (by decide) rfl (fun h_15 => ?_) (fun h_15 => ?_)
    · exfalso
      omega
    · refine g_iconst X (z := 1) dL_law_199 rfl ?_
      refine g_goto X (n := 204) dL_law_200 (by decide) ?_
      refine g_istore_n X (lv' := [(2, .int (iI 1)), (6, .int (iI 0)), (5, .int (iI (wlG S.1))), (4, .int (iI r)), (3, .int (iI (S.1 4))), (0, .ref b), (1, .ref o)]) (by decide) rfl dL_law_204 rfl ?_
      refine g_iconst X (z := 0) dL_law_205 rfl ?_
      refine g_istore X (lv' := [(7, .int (iI 0)), (2, .int (iI 1)), (6, .int (iI 0)), (5, .int (iI (wlG S.1))), (4, .int (iI r)), (3, .int (iI (S.1 4))), (0, .ref b), (1, .ref o)]) (by decide) rfl dL_law_206 rfl ?_
      refine g_lv (lv' := [(0, .ref b), (1, .ref o), (2, .int (iI 1)), (3, .int (iI (S.1 4))), (4, .int (iI r)), (5, .int (iI (wlG S.1))), (6, .int (iI 0)), (7, .int (iI 0))]) [6, 7, 1, 5, 4, 3, 2, 0] rfl ?_
      exact law_208 X hr hc hPA1 hg1 (by rw [hS1]; rfl) (by rw [hS1]; exact (show up S.2.2.2.1 1 1 1 = 1 from up_eq _ _ _)) (by rw [hg1]; exact hre) 20002 0 0 0 S1 _ hO_10 (hPA1.up1 (by omega)) (KS.rf S1) (by decide) (by omega) (Or.inl ⟨by omega, rfl⟩) rfl rfl (Or.inl rfl) (by omega)
set_option maxRecDepth 100000 in
set_option maxHeartbeats 4000000 in
theorem law_73 {p : Program} {l : Launch} {e : Env} {s : State} {m : MethodId} {below : List Frame} {meth : Method} {c : Code} {D : va_G} {ca : Nat → ClassId} {cells slots : Nat} {L : List Nat} {b o : Nat} (X : Fx p s m #[Value.ref b] meth c D ca (fun q => s.heap.size ≤ q) 9 cL_law RL) (hr : meth.sig.returnType = ret) (hc : cells ≤ 704983 ∧ slots ≤ 6987298) {LN : Nat} {xs : Nat → Int32} (hX : va_X b LN xs s s.heap) (hbl : b < s.heap.size) (hLN : LN ≤ 260) : ∀ (n : Nat) (k : Int) (S : AS) (M : Mem), OB ca L M o S → PA (60 * k) S → S.2.2.2.1 0 = 0 → 0 ≤ k → k ≤ 40 → 40 - k < (n : Int) → G p l e room_1 s m #[Value.ref b] below meth c D (fun q => s.heap.size ≤ q) 9 (lw_Z below #[Value.ref b] s) cells slots L M 73 [(0, .ref b), (1, .ref o), (2, .int (iI 1)), (3, .int (iI k))] [] := by
  have hbA : ¬ (fun q : Nat => s.heap.size ≤ q) b := Nat.not_le.mpr hbl
  intro n
  induction n with
  | zero =>
    intro k S M hO hPA h0 k0 k1 hm
    exfalso; omega
  | succ n ih =>
    intro k S M hO hPA h0 k0 k1 hm
    have hW := hPA.1
    refine g_iload_n X 3 rfl dL_law_73 rfl ?_
    refine g_bipush X (z := 40) (by decide +kernel) dL_law_74 rfl ?_
    refine g_icmp_ge X ⟨by omega, by omega⟩ ⟨by decide, by decide⟩ (tgt := 133) dL_law_76 (by decide) rfl (fun h_1 => ?_) (fun h_1 => ?_)
    · refine g_lv (lv' := [(0, .ref b), (1, .ref o), (2, .int (iI 1))]) [0, 1, 2] rfl ?_
      exact law_133 X hr hc hO (hPA.up1 (by omega)) h0
    · refine g_iload_n X 2 rfl dL_law_79 rfl ?_
      refine g_if_eq X ⟨by decide, by decide⟩ (tgt := 133) dL_law_80 (by decide) rfl (fun h => absurd h (by decide)) (fun _ => ?_)
      refine g_aload_n X 1 rfl dL_law_83 rfl ?_
      refine g_aload_n X 0 rfl dL_law_84 rfl ?_
      refine g_iload_n X 3 rfl dL_law_85 rfl ?_
      refine g_cell X hX hbl hbA hLN (y := k) k0 (by omega) wm_L_58 ⟨by decide, by decide⟩ (Nat.le_of_ble_eq_true rfl) hc rfl dL_law_86 rfl (fun v_3 v_30 v_31 => ?_)
      refine g_callS X (ct_L_acts l o S _ v_3) (As := [.ref o, .int (iI v_3)]) (rest := []) rfl ca_L_acts rfl wm_L_64 wt_L_acts wc_L_acts w0_L ⟨by decide, by decide⟩ (by decide) hc rfl dL_law_89 rfl ⟨rfl, hO, hPA, by omega, by omega, v_30, v_31⟩ (fun r1 L9 M9 hq => ?_)
      obtain ⟨rfl, rfl, S2, hO2, hPA2, hKS2⟩ := hq
      have hW2 := hPA2.1
      refine g_st (st' := [.int (iI 1)]) rfl ?_
      refine g_if_eq X ⟨by decide, by decide⟩ (tgt := 125) dL_law_92 (by decide) rfl (fun h => absurd h (by decide)) (fun _ => ?_)
      refine g_iload_n X 3 rfl dL_law_95 rfl ?_
      refine g_bipush X (z := 8) (by decide +kernel) dL_law_96 rfl ?_
      refine g_irem X ⟨⟨by omega, by omega⟩, by omega, by omega⟩ dL_law_98 rfl ?_
      refine g_if_gt X ⟨by omega, by omega⟩ (tgt := 121) dL_law_99 (by decide) rfl (fun h_5 => ?_) (fun h_5 => ?_)
      · refine g_iconst X (z := 1) dL_law_121 rfl ?_
        refine g_goto X (n := 126) dL_law_122 (by decide) ?_
        refine g_istore_n X (lv' := [(2, .int (iI 1)), (0, .ref b), (1, .ref o), (3, .int (iI k))]) (by decide) rfl dL_law_126 rfl ?_
        refine g_iinc X (lv' := [(3, .int (iI (k + 1))), (2, .int (iI 1)), (0, .ref b), (1, .ref o)]) 3 rfl (by decide) rfl dL_law_127 rfl ?_
        refine g_goto X (n := 73) dL_law_130 (by decide) ?_
        refine g_lv (lv' := [(0, .ref b), (1, .ref o), (2, .int (iI 1)), (3, .int (iI (k + 1)))]) [2, 3, 1, 0] rfl ?_
        exact ih (k + 1) S2 _ hO2 (hPA2.up1 (by omega)) (by rw [hKS2.2]; exact h0) (by omega) (by omega) (by omega)
      · refine g_aload_n X 1 rfl dL_law_102 rfl ?_
        refine g_callS X (ct_L_areSums l o S2 _) (As := [.ref o]) (rest := []) rfl ca_L_areSums rfl wm_L_68 wt_L_areSums wc_L_areSums w0_L ⟨by decide, by decide⟩ (by decide) hc rfl dL_law_103 rfl ⟨rfl, hO2, hPA2⟩ (fun r1 L9 M_6 hq => ?_)
        obtain ⟨rfl, rfl, hO_6⟩ := hq
        refine g_st (st' := [.int (iI 1)]) rfl ?_
        refine g_if_eq X ⟨by decide, by decide⟩ (tgt := 125) dL_law_106 (by decide) rfl (fun h => absurd h (by decide)) (fun _ => ?_)
        refine g_aload_n X 1 rfl dL_law_109 rfl ?_
        refine g_aload_n X 0 rfl dL_law_110 rfl ?_
        refine g_iload_n X 3 rfl dL_law_111 rfl ?_
        refine g_cell X hX hbl hbA hLN (y := k) k0 (by omega) wm_L_58 ⟨by decide, by decide⟩ (Nat.le_of_ble_eq_true rfl) hc rfl dL_law_112 rfl (fun v_8 v_80 v_81 => ?_)
        refine g_callS X (ct_L_areBanks l o S2 _ v_8) (As := [.ref o, .int (iI v_8)]) (rest := []) rfl ca_L_areBanks rfl wm_L_72 wt_L_areBanks wc_L_areBanks w0_L ⟨by decide, by decide⟩ (by decide) hc rfl dL_law_115 rfl ⟨rfl, hO_6, hPA2, v_80, v_81⟩ (fun r1 L9 M_9 hq => ?_)
        obtain ⟨rfl, rfl, hO_9⟩ := hq
        refine g_st (st' := [.int (iI 1)]) rfl ?_
        refine g_if_eq X ⟨by decide, by decide⟩ (tgt := 125) dL_law_118 (by decide) rfl (fun h => absurd h (by decide)) (fun _ => ?_)
        refine g_iconst X (z := 1) dL_law_121 rfl ?_
        refine g_goto X (n := 126) dL_law_122 (by decide) ?_
        refine g_istore_n X (lv' := [(2, .int (iI 1)), (0, .ref b), (1, .ref o), (3, .int (iI k))]) (by decide) rfl dL_law_126 rfl ?_
        refine g_iinc X (lv' := [(3, .int (iI (k + 1))), (2, .int (iI 1)), (0, .ref b), (1, .ref o)]) 3 rfl (by decide) rfl dL_law_127 rfl ?_
        refine g_goto X (n := 73) dL_law_130 (by decide) ?_
        refine g_lv (lv' := [(0, .ref b), (1, .ref o), (2, .int (iI 1)), (3, .int (iI (k + 1)))]) [2, 3, 1, 0] rfl ?_
        exact ih (k + 1) S2 _ hO_9 (hPA2.up1 (by omega)) (by rw [hKS2.2]; exact h0) (by omega) (by omega) (by omega)
set_option maxRecDepth 100000 in
set_option maxHeartbeats 4000000 in
theorem whole_start {p : Program} {e : Env} {s : State} {m : MethodId} {below : List Frame} {meth : Method} {c : Code} (l : Launch) (hflags : l.flags = flags0) {b L : Nat} {xs : Nat → Int32} (hL : L ≤ 260) (C0 : lw_At p s m meth c b L xs) : W p l e room_1 s m #[Value.ref b] below meth c s.heap [] 0 0 (lw_Z below #[Value.ref b] s) (entryFrame m ([Value.ref b] : List Value).toArray 9) := by
  obtain ⟨D, ca, X⟩ := law_X C0
  obtain ⟨hx, hb, hr, hml, hown, hts, hX, hbl, hlocks, hgv⟩ := id C0
  obtain ⟨S1, hS1⟩ : ∃ x : AS, x = opRun S0 1 := ⟨_, rfl⟩
  obtain ⟨S2, hS2⟩ : ∃ x : AS, x = opReset S1 := ⟨_, rfl⟩
  obtain ⟨⟨u1, u2⟩, ⟨u3, u4⟩, u5, u6, u7, u8, hW1, u9, hPA2, h0⟩ := start_ok hS1 hS2
  have hG : G p l e room_1 s m #[Value.ref b] below meth c D (fun q => s.heap.size ≤ q) 9 (lw_Z below #[Value.ref b] s) 0 0 [] (fun _ => .inr (0, [])) 0 (lv_args 0 [.ref b]) [] := by
    refine g_lv (lv' := [(0, .ref b)]) [0] rfl ?_
    refine g_new X cl_X5 wk_L_10 w1_X5 w0_X5 [.null, .null, .null, .null, .null, .null] (fun j hj => by rcases (by omega : j = 0 ∨ j = 1 ∨ j = 2 ∨ j = 3 ∨ j = 4 ∨ j = 5) with rfl | rfl | rfl | rfl | rfl | rfl <;> first | rfl | exact congrArg Value.int iI_zero) ⟨Nat.le_of_ble_eq_true rfl, Nat.le_of_ble_eq_true rfl⟩ dL_law_0 rfl (fun q_1 L_2 M_3 hq_4 hL_5 hM_6 fr_7 => ?_)
    have hi_8 : q_1 ∈ L_2 := hL_5 ▸ List.mem_append_right _ List.mem_cons_self
    refine g_dup X rfl dL_law_3 rfl ?_
    refine g_callI X (ct_X5_init l q_1) (As := []) (rest := [.ref q_1]) rfl rfl ca_X5_init rfl wm_L_51 wi_X5_init wc_X5_init w0_X5 ⟨by decide, by decide⟩ (Nat.le_of_ble_eq_true rfl) ⟨Nat.le_of_ble_eq_true rfl, Nat.le_of_ble_eq_true rfl⟩ rfl dL_law_4 rfl ⟨rfl, hi_8, hM_6⟩ (fun r9 L9 M9 hq9 => ?_)
    obtain ⟨rfl, Sg, hSg0, hSB, hsub5, hfr5⟩ := hq9
    have hO : OB ca L9 M9 q_1 S0 := ⟨Sg, hSg0, hSB⟩
    refine g_st (st' := [.ref q_1]) rfl ?_
    refine g_astore_n X (lv' := [(1, .ref q_1), (0, .ref b)]) (by decide) rfl dL_law_7 rfl ?_
    refine g_aload_n X 0 rfl dL_law_8 rfl ?_
    refine k_call X (v := -5) (fun Sg => kt_undo l Sg S0) (As := []) (rest := []) rfl ca_X5_undo rfl wm_L_52 wi_X5_undo ws_X5_undo wc_X5_undo ⟨by decide, by decide⟩ (by decide) ⟨Nat.le_of_ble_eq_true rfl, Nat.le_of_ble_eq_true rfl⟩ rfl dL_law_9 rfl hO wf_S0 u1 (fun M_10 hO_9 => ?_)
    rw [u2] at hO_9
    refine g_bipush X (z := -5) (by decide +kernel) dL_law_12 rfl ?_
    refine g_icmp_ne X ⟨by decide, by decide⟩ ⟨by omega, by omega⟩ (tgt := 69) dL_law_14 (by decide) rfl (fun h_11 => ?_) (fun h_11 => ?_)
    · exfalso
      omega
    · refine g_aload_n X 0 rfl dL_law_17 rfl ?_
      refine g_iconst X (z := 0) dL_law_18 rfl ?_
      refine k_call X (v := -5) (fun Sg => kt_restore l Sg S0 0) (As := [.int (iI 0)]) (rest := []) rfl ca_X5_restore rfl wm_L_55 wi_X5_restore ws_X5_restore wc_X5_restore ⟨by decide, by decide⟩ (by decide) ⟨Nat.le_of_ble_eq_true rfl, Nat.le_of_ble_eq_true rfl⟩ rfl dL_law_19 rfl hO_9 ⟨wf_S0, ⟨by decide, by decide⟩⟩ u3 (fun M_13 hO_12 => ?_)
      rw [u4] at hO_12
      refine g_bipush X (z := -5) (by decide +kernel) dL_law_22 rfl ?_
      refine g_icmp_ne X ⟨by decide, by decide⟩ ⟨by omega, by omega⟩ (tgt := 69) dL_law_24 (by decide) rfl (fun h_14 => ?_) (fun h_14 => ?_)
      · exfalso
        omega
      · refine g_aload_n X 0 rfl dL_law_27 rfl ?_
        refine k_call X (v := 0) (fun Sg => kt_untilDone l Sg S0) (As := []) (rest := []) rfl ca_X5_untilDone rfl wm_L_44 wi_X5_untilDone ws_X5_untilDone wc_X5_untilDone ⟨by decide, by decide⟩ (by decide) ⟨Nat.le_of_ble_eq_true rfl, Nat.le_of_ble_eq_true rfl⟩ rfl dL_law_28 rfl hO_12 wf_S0 u5 (fun M_16 hO_15 => ?_)
        refine g_if_ne X ⟨by decide, by decide⟩ (tgt := 69) dL_law_31 (by decide) rfl (fun h => absurd h (by decide)) (fun _ => ?_)
        refine g_aload_n X 0 rfl dL_law_34 rfl ?_
        refine g_iconst X (z := 0) dL_law_35 rfl ?_
        refine k_call X (v := 0) (fun Sg => kt_bestMap l Sg S0 0) (As := [.int (iI 0)]) (rest := []) rfl ca_X5_bestMap rfl wm_L_41 wi_X5_bestMap ws_X5_bestMap wc_X5_bestMap ⟨by decide, by decide⟩ (by decide) ⟨Nat.le_of_ble_eq_true rfl, Nat.le_of_ble_eq_true rfl⟩ rfl dL_law_36 rfl hO_15 ⟨wf_S0, ⟨by decide, by decide⟩⟩ u6 (fun M_19 hO_18 => ?_)
        refine g_if_ne X ⟨by decide, by decide⟩ (tgt := 69) dL_law_39 (by decide) rfl (fun h => absurd h (by decide)) (fun _ => ?_)
        refine g_aload_n X 0 rfl dL_law_42 rfl ?_
        refine g_iconst X (z := 1) dL_law_43 rfl ?_
        refine k_call X (v := 0) (fun Sg => kt_bestMap l Sg S0 1) (As := [.int (iI 1)]) (rest := []) rfl ca_X5_bestMap rfl wm_L_41 wi_X5_bestMap ws_X5_bestMap wc_X5_bestMap ⟨by decide, by decide⟩ (by decide) ⟨Nat.le_of_ble_eq_true rfl, Nat.le_of_ble_eq_true rfl⟩ rfl dL_law_44 rfl hO_18 ⟨wf_S0, ⟨by decide, by decide⟩⟩ u7 (fun M_22 hO_21 => ?_)
        refine g_if_ne X ⟨by decide, by decide⟩ (tgt := 69) dL_law_47 (by decide) rfl (fun h => absurd h (by decide)) (fun _ => ?_)
        refine g_aload_n X 0 rfl dL_law_50 rfl ?_
        refine g_iconst X (z := 1) dL_law_51 rfl ?_
        refine k_call X (v := 0) (fun Sg => kt_run l Sg S0 1) (As := [.int (iI 1)]) (rest := []) rfl ca_X5_run rfl wm_L_29 wi_X5_run ws_X5_run wc_X5_run ⟨by decide, by decide⟩ (by decide) ⟨Nat.le_of_ble_eq_true rfl, Nat.le_of_ble_eq_true rfl⟩ rfl dL_law_52 rfl hO_21 ⟨wf_S0, ⟨by decide, by decide⟩⟩ u8 (fun M_25 hO_24 => ?_)
        rw [← hS1] at hO_24
        refine g_if_ne X ⟨by decide, by decide⟩ (tgt := 69) dL_law_55 (by decide) rfl (fun h => absurd h (by decide)) (fun _ => ?_)
        refine g_aload_n X 0 rfl dL_law_58 rfl ?_
        refine k_call X (v := 0) (fun Sg => kt_reset l Sg S1) (As := []) (rest := []) rfl ca_X5_reset rfl wm_L_48 wi_X5_reset ws_X5_reset wc_X5_reset ⟨by decide, by decide⟩ (by decide) ⟨Nat.le_of_ble_eq_true rfl, Nat.le_of_ble_eq_true rfl⟩ rfl dL_law_59 rfl hO_24 hW1 u9 (fun M_28 hO_27 => ?_)
        rw [← hS2] at hO_27
        refine g_if_ne X ⟨by decide, by decide⟩ (tgt := 69) dL_law_62 (by decide) rfl (fun h => absurd h (by decide)) (fun _ => ?_)
        refine g_iconst X (z := 1) dL_law_65 rfl ?_
        refine g_goto X (n := 70) dL_law_66 (by decide) ?_
        refine g_istore_n X (lv' := [(2, .int (iI 1)), (1, .ref q_1), (0, .ref b)]) (by decide) rfl dL_law_70 rfl ?_
        refine g_iconst X (z := 0) dL_law_71 rfl ?_
        refine g_istore_n X (lv' := [(3, .int (iI 0)), (2, .int (iI 1)), (1, .ref q_1), (0, .ref b)]) (by decide) rfl dL_law_72 rfl ?_
        refine g_lv (lv' := [(0, .ref b), (1, .ref q_1), (2, .int (iI 1)), (3, .int (iI 0))]) [3, 2, 1, 0] rfl ?_
        exact law_73 X hr ⟨Nat.le_of_ble_eq_true rfl, Nat.le_of_ble_eq_true rfl⟩ hX hbl hL 41 0 S2 _ hO_27 hPA2 h0 (by decide) (by decide) (by decide)
  rw [lg_entry_eq]
  exact hG s.heap [] _ (fun k q h => by simp [va_pl] at h) ⟨fun i j p q h => by simp [va_pl] at h, fun k q h => by simp [va_pl] at h⟩ va_S.rf (lv_entry [.ref b] (Nat.le_of_ble_eq_true rfl))

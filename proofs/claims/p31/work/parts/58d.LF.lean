section G_LF
variable {p : Program} {l : Launch} {e : Env} {s : State} {m : MethodId} {args : Array Value} {below : List Frame} {meth : Method} {c : Code} {D : va_G} {cI cZ cT : ClassId}

/-! QuarrelWaysLaw.isTimeSo (LQuarrelWays;I)Z -/
abbrev rm_L_isTimeSo : Room := { frames := 6, cells := 0, slots := 0, locals := 139 }
theorem hd_L_isTimeSo : yL_isTimeSo.cls = RL ∧ yL_isTimeSo.cls ≠ "java/lang/invoke/MethodHandle" ∧ yL_isTimeSo.cls ≠ "java/lang/invoke/VarHandle" ∧ (parseMethodDescriptor yL_isTimeSo.desc).map (fun d => d.parameters.length) = some 2 := by decide +kernel
set_option maxHeartbeats 4000000 in
set_option maxRecDepth 100000 in
theorem c_L_isTimeSo (l : Launch) (D : va_G) (cI cZ cT : ClassId) (G : q_G) (sz : Nat) (w sl : Nat) (o a : Nat) (t : TT) (hs hst : Nat) (ta ca : Nat → Nat) (hh : HH) (pd sg nm : Nat) (pp : PP) (a1 : Int32) (r : Int32 × TT × HH) (h : f_L_isTimeSo t hh pp a1 = some r) : Met l yL_isTimeSo (wq yL_isTimeSo cL_isTimeSo 7 (some .boolean)) rm_L_isTimeSo (q_M D (q_tys cI cZ cT) sz ((wX w o hs pd sl) ++ (wT cI o a t) ++ (wH cI cT hs hst ta ca hh) ++ (wPd cI pd sg nm pp)) (q_E G (va_A ((wX w o hs pd sl) ++ (wT cI o a t) ++ (wH cI cT hs hst ta ca hh) ++ (wPd cI pd sg nm pp)) sz)) [.ref w, .int a1]) (va_Qi (fun r' _ => r' = r.1) (q_B D ((wX w o hs pd sl) ++ (wT cI o a t) ++ (wH cI cT hs hst ta ca hh) ++ (wPd cI pd sg nm pp)) sz ((wX w o hs pd sl) ++ (wT cI o a r.2.1) ++ (wH cI cT hs hst ta ca r.2.2) ++ (wPd cI pd sg nm pp))) (va_A ((wX w o hs pd sl) ++ (wT cI o a t) ++ (wH cI cT hs hst ta ca hh) ++ (wPd cI pd sg nm pp)) sz)) 0 0 (va_A ((wX w o hs pd sl) ++ (wT cI o a t) ++ (wH cI cT hs hst ta ca hh) ++ (wPd cI pd sg nm pp)) sz) := by
  refine q_MI (cc := cL_isTimeSo) (maxL := 7) (ret := (some .boolean)) (E := fun sz => (q_E G (va_A ((wX w o hs pd sl) ++ (wT cI o a t) ++ (wH cI cT hs hst ta ca hh) ++ (wPd cI pd sg nm pp)) sz))) (Qc := fun sz => (va_Qi (fun r' _ => r' = r.1) (q_B D ((wX w o hs pd sl) ++ (wT cI o a t) ++ (wH cI cT hs hst ta ca hh) ++ (wPd cI pd sg nm pp)) sz ((wX w o hs pd sl) ++ (wT cI o a r.2.1) ++ (wH cI cT hs hst ta ca r.2.2) ++ (wPd cI pd sg nm pp))) (va_A ((wX w o hs pd sl) ++ (wT cI o a t) ++ (wH cI cT hs hst ta ca hh) ++ (wPd cI pd sg nm pp)) sz))) (free := fun sz => va_A ((wX w o hs pd sl) ++ (wT cI o a t) ++ (wH cI cT hs hst ta ca hh) ++ (wPd cI pd sg nm pp)) sz) (plainFor_of_name (by decide)) (Nat.le_of_ble_eq_true rfl) (fun p e s m below meth c C0 hname hP hK hD hE ls hl => ?_)
  have hA : ∀ q, s.heap.size ≤ q → (va_A ((wX w o hs pd sl) ++ (wT cI o a t) ++ (wH cI cT hs hst ta ca hh) ++ (wPd cI pd sg nm pp)) s.heap.size) q := fun _ => Or.inr
  have hS : va_S (va_A ((wX w o hs pd sl) ++ (wT cI o a t) ++ (wH cI cT hs hst ta ca hh) ++ (wPd cI pd sg nm pp)) s.heap.size) s.heap s.heap [] := va_S.rf
  have hE : q_E G (va_A ((wX w o hs pd sl) ++ (wT cI o a t) ++ (wH cI cT hs hst ta ca hh) ++ (wPd cI pd sg nm pp)) s.heap.size) s := hE
  have hl : lv_has ls 7 [(0, .ref w), (1, .int a1)] := hl
  obtain ⟨hx, hb, hr, hml, hown, hts, hlocks⟩ := id C0
  have hF : CallFix p m c cL_isTimeSo 7 s _ BW RL := ⟨hx, hb, hml, hown, hts⟩
  rw [f_L_isTimeSo] at h
  refine lv_aload_n hx hb dL_isTimeSo_0 rfl (lv_at hl 0 rfl) ?_
  refine lv_iload_n hx hb dL_isTimeSo_1 rfl (lv_at hl 1 rfl) ?_
  obtain ⟨x1, h2, h⟩ := bE h
  refine x_RV (As := [.int a1]) (rest := []) hF (c_X3_opensIn l D cI cZ cT G (va_A ((wX w o hs pd sl) ++ (wT cI o a t) ++ (wH cI cT hs hst ta ca hh) ++ (wPd cI pd sg nm pp)) s.heap.size) w sl o a t hs hst ta ca hh pd sg nm pp a1 x1 h2) (cwV 1 hts (gqV mw_372 mw_373 mw_374 mw_51 mw_289) rfl rfl rfl hd_X3_opensIn ⟨Nat.le_of_ble_eq_true rfl, Nat.le_of_ble_eq_true rfl⟩) hK hP q_E_bl (q_E_go hE hS (fun _ h9 => h9)) [0, 1, 2, 3, 4, 5, 6, 7, 8, 9, 10, 11, 12, 13, 14, 15, 16, 17, 18, 19, 20, 21] rfl rfl rfl rfl hl.1 rfl (Nat.le_of_ble_eq_true rfl) dL_isTimeSo_2 ⟨Nat.zero_le _, Nat.zero_le _⟩ ?_
  refine lv_istore_n (lv' := [(2, .int x1), (0, .ref w), (1, .int a1)]) hx hb dL_isTimeSo_5 rfl hl (by decide) rfl (fun ls hl => ?_)
  refine lv_aload_n hx hb dL_isTimeSo_6 rfl (lv_at hl 1 rfl) ?_
  refine lv_iload_n hx hb dL_isTimeSo_7 rfl (lv_at hl 2 rfl) ?_
  obtain ⟨x3, h4, h⟩ := bE h
  refine x_RV (As := [.int a1]) (rest := []) hF (c_X3_dueIn l D cI cZ cT G (va_A ((wX w o hs pd sl) ++ (wT cI o a t) ++ (wH cI cT hs hst ta ca hh) ++ (wPd cI pd sg nm pp)) s.heap.size) w sl o a t hs hst ta ca hh pd sg nm pp a1 x3 h4) (cwV 1 hts (gqV mw_375 mw_376 mw_377 mw_51 mw_292) rfl rfl rfl hd_X3_dueIn ⟨Nat.le_of_ble_eq_true rfl, Nat.le_of_ble_eq_true rfl⟩) hK hP q_E_bl (q_E_go hE hS (fun _ h9 => h9)) [0, 1, 2, 3, 4, 5, 6, 7, 8, 9, 10, 11, 12, 13, 14, 15, 16, 17, 18, 19, 20, 21] rfl rfl rfl rfl hl.1 rfl (Nat.le_of_ble_eq_true rfl) dL_isTimeSo_8 ⟨Nat.zero_le _, Nat.zero_le _⟩ ?_
  refine lv_istore_n (lv' := [(3, .int x3), (2, .int x1), (0, .ref w), (1, .int a1)]) hx hb dL_isTimeSo_11 rfl hl (by decide) rfl (fun ls hl => ?_)
  refine lv_aload_n hx hb dL_isTimeSo_12 rfl (lv_at hl 2 rfl) ?_
  refine lv_iload_n hx hb dL_isTimeSo_13 rfl (lv_at hl 3 rfl) ?_
  refine lv_iconst (v := 4) hx hb dL_isTimeSo_14 (by decide) ?_
  obtain ⟨x5, h6, h⟩ := bE h
  refine x_RV (As := [.int a1, .int (4 : Int32)]) (rest := []) hF (c_X3_quarrel l D cI cZ cT G (va_A ((wX w o hs pd sl) ++ (wT cI o a t) ++ (wH cI cT hs hst ta ca hh) ++ (wPd cI pd sg nm pp)) s.heap.size) w sl o a t hs hst ta ca hh pd sg nm pp a1 (4 : Int32) x5 h6) (cwV 2 hts (gqV mw_347 mw_348 mw_349 mw_51 mw_271) rfl rfl rfl hd_X3_quarrel ⟨Nat.le_of_ble_eq_true rfl, Nat.le_of_ble_eq_true rfl⟩) hK hP q_E_bl (q_E_go hE hS (fun _ h9 => h9)) [0, 1, 2, 3, 4, 5, 6, 7, 8, 9, 10, 11, 12, 13, 14, 15, 16, 17, 18, 19, 20, 21] rfl rfl rfl rfl hl.1 rfl (Nat.le_of_ble_eq_true rfl) dL_isTimeSo_15 ⟨Nat.zero_le _, Nat.zero_le _⟩ ?_
  refine lv_if_eq (tgt := 39) hx hb dL_isTimeSo_18 (by decide) (fun c7 => ?_) (fun c7 => ?_)
  · have h := xt c7 h
    refine lv_iload_n hx hb dL_isTimeSo_39 rfl (lv_at hl 1 rfl) ?_
    refine x_j (V := Int32) (nL := 7) (fun v8 => [(0, .ref w), (1, .int a1), (2, .int x1), (3, .int x3)]) 48 (fun v8 => [.int v8]) h (fun v8 h ls hl => ?_) (fun v8 h hj => ?_)
    · refine lv_aload_n hx hb dL_isTimeSo_48 rfl (lv_at hl 0 rfl) ?_
      refine lv_iload_n hx hb dL_isTimeSo_49 rfl (lv_at hl 1 rfl) ?_
      obtain ⟨x9, h10, h⟩ := bE h
      refine x_RV (As := [.int a1]) (rest := [.int v8]) hF (c_X3_firstWay l D cI cZ cT G (va_A ((wX w o hs pd sl) ++ (wT cI o a t) ++ (wH cI cT hs hst ta ca hh) ++ (wPd cI pd sg nm pp)) s.heap.size) w sl o a t hs hst ta ca hh pd sg nm pp a1 x9 h10) (cwV 1 hts (gqV mw_353 mw_354 mw_355 mw_51 mw_286) rfl rfl rfl hd_X3_firstWay ⟨Nat.le_of_ble_eq_true rfl, Nat.le_of_ble_eq_true rfl⟩) hK hP q_E_bl (q_E_go hE hS (fun _ h9 => h9)) [0, 1, 2, 3, 4, 5, 6, 7, 8, 9, 10, 11, 12, 13, 14, 15, 16, 17, 18, 19, 20, 21] rfl rfl rfl rfl hl.1 rfl (Nat.le_of_ble_eq_true rfl) dL_isTimeSo_50 ⟨Nat.zero_le _, Nat.zero_le _⟩ ?_
      refine x_j (V := Int32) (nL := 7) (fun v11 => [(0, .ref w), (1, .int a1), (2, .int x1), (3, .int x3)]) 61 (fun v11 => [.int v11, .int v8]) h (fun v11 h ls hl => ?_) (fun v11 h hj => ?_)
      · refine x_j (V := Int32) (nL := 7) (fun v12 => [(0, .ref w), (1, .int a1), (2, .int x1), (3, .int x3)]) 94 (fun v12 => [.int v12]) h (fun v12 h ls hl => ?_) (fun v12 h hj => ?_)
        · refine lv_istore (lv' := [(4, .int v12), (0, .ref w), (1, .int a1), (2, .int x1), (3, .int x3)]) hx hb dL_isTimeSo_94 hl (by decide) rfl (fun ls hl => ?_)
          refine lv_iload_n hx hb dL_isTimeSo_96 rfl (lv_at hl 3 rfl) ?_
          refine x_jM (V := Int32 × TT × HH) (nL := 7) (D := D) (A := (va_A ((wX w o hs pd sl) ++ (wT cI o a t) ++ (wH cI cT hs hst ta ca hh) ++ (wPd cI pd sg nm pp)) s.heap.size)) (H0 := s.heap) (fun v13 => [(0, .ref w), (1, .int a1), (3, .int x3), (4, .int v13.1)]) 223 (fun v13 => []) (fun v13 => (wX w o hs pd sl) ++ (wT cI o a v13.2.1) ++ (wH cI cT hs hst ta ca v13.2.2) ++ (wPd cI pd sg nm pp)) h (fun v13 h H locs ls hP hD hS hl => ?_) (fun v13 h hj => ?_)
          · refine lv_iload_n hx hb dL_isTimeSo_223 rfl (lv_at hl 2 rfl) ?_
            refine lv_if_le (tgt := 348) hx hb dL_isTimeSo_224 (by decide) (fun c14 => ?_) (fun c14 => ?_)
            · have h := xt c14 h
              refine lv_iload hx hb dL_isTimeSo_348 (lv_at hl 3 rfl) ?_
              obtain ⟨x15, h16, h⟩ := bE h
              obtain ⟨hz, ex15⟩ := gb_e h16
              subst ex15
              cases h
              exact x_retM C0 (x_nz hz) hP hD hS dL_isTimeSo_350
            · have h := xf c14 h
              refine lv_iload_n hx hb dL_isTimeSo_227 rfl (lv_at hl 2 rfl) ?_
              refine lv_bipush (v := 99) hx hb dL_isTimeSo_228 (by decide) ?_
              refine lv_icmp_ge (tgt := 348) hx hb dL_isTimeSo_230 (by decide) (fun c17 => ?_) (fun c17 => ?_)
              · have h := xt c17 h
                refine lv_iload hx hb dL_isTimeSo_348 (lv_at hl 3 rfl) ?_
                obtain ⟨x18, h19, h⟩ := bE h
                obtain ⟨hz, ex18⟩ := gb_e h19
                subst ex18
                cases h
                exact x_retM C0 (x_nz hz) hP hD hS dL_isTimeSo_350
              · have h := xf c17 h
                refine lv_iload_n hx hb dL_isTimeSo_233 rfl (lv_at hl 2 rfl) ?_
                refine lv_iconst (v := 1) hx hb dL_isTimeSo_234 (by decide) ?_
                refine x_jM (V := Int32 × TT × HH) (nL := 7) (D := D) (A := (va_A ((wX w o hs pd sl) ++ (wT cI o a t) ++ (wH cI cT hs hst ta ca hh) ++ (wPd cI pd sg nm pp)) s.heap.size)) (H0 := s.heap) (fun v20 => [(0, .ref w), (1, .int a1), (3, .int x3), (4, .int v13.1)]) 249 (fun v20 => [.int v20.1]) (fun v20 => (wX w o hs pd sl) ++ (wT cI o a v20.2.1) ++ (wH cI cT hs hst ta ca v20.2.2) ++ (wPd cI pd sg nm pp)) h (fun v20 h H locs ls hP hD hS hl => ?_) (fun v20 h hj => ?_)
                · refine lv_istore (lv' := [(5, .int v20.1), (0, .ref w), (1, .int a1), (3, .int x3), (4, .int v13.1)]) hx hb dL_isTimeSo_249 hl (by decide) rfl (fun ls hl => ?_)
                  refine lv_iload hx hb dL_isTimeSo_251 (lv_at hl 4 rfl) ?_
                  refine x_j (V := Int32) (nL := 7) (fun v21 => [(0, .ref w), (1, .int a1), (3, .int x3), (5, .int v20.1)]) 274 (fun v21 => [.int v21]) h (fun v21 h ls hl => ?_) (fun v21 h hj => ?_)
                  · refine lv_istore (lv' := [(4, .int v21), (0, .ref w), (1, .int a1), (3, .int x3), (5, .int v20.1)]) hx hb dL_isTimeSo_274 hl (by decide) rfl (fun ls hl => ?_)
                    refine lv_iload_n hx hb dL_isTimeSo_276 rfl (lv_at hl 3 rfl) ?_
                    refine lv_iconst (v := 1) hx hb dL_isTimeSo_277 (by decide) ?_
                    refine x_jM (V := Int32 × TT × HH) (nL := 7) (D := D) (A := (va_A ((wX w o hs pd sl) ++ (wT cI o a t) ++ (wH cI cT hs hst ta ca hh) ++ (wPd cI pd sg nm pp)) s.heap.size)) (H0 := s.heap) (fun v22 => [(0, .ref w), (1, .int a1), (3, .int x3), (4, .int v21)]) 294 (fun v22 => [.int v22.1]) (fun v22 => (wX w o hs pd sl) ++ (wT cI o a v22.2.1) ++ (wH cI cT hs hst ta ca v22.2.2) ++ (wPd cI pd sg nm pp)) h (fun v22 h H locs ls hP hD hS hl => ?_) (fun v22 h hj => ?_)
                    · refine lv_istore (lv' := [(6, .int v22.1), (0, .ref w), (1, .int a1), (3, .int x3), (4, .int v21)]) hx hb dL_isTimeSo_294 hl (by decide) rfl (fun ls hl => ?_)
                      refine lv_aload_n hx hb dL_isTimeSo_296 rfl (lv_at hl 1 rfl) ?_
                      refine lv_iload_n hx hb dL_isTimeSo_297 rfl (lv_at hl 3 rfl) ?_
                      obtain ⟨x23, h24, h⟩ := bE h
                      refine x_MVp (As := [.int x3]) (rest := []) (wr := []) (W1 := (wX w o hs pd sl) ++ (wT cI o a x23.2.1) ++ (wH cI cT hs hst ta ca x23.2.2) ++ (wPd cI pd sg nm pp)) hF (c_X3_pass l D cI cZ cT G _ w sl o a v22.2.1 hs hst ta ca v22.2.2 pd sg nm pp x3 x23 h24) (cwV 1 hts (gqV mw_336 mw_337 mw_338 mw_51 mw_265) rfl rfl rfl hd_X3_pass ⟨Nat.le_of_ble_eq_true rfl, Nat.le_of_ble_eq_true rfl⟩) hK hP hD hS hA q_E_bl (q_E_go hE hS (q_freep (p4_A (wX w o hs pd sl) (wT cI o a v22.2.1) (wH cI cT hs hst ta ca v22.2.2) (wPd cI pd sg nm pp)) hD hS hA)) (p4_A (wX w o hs pd sl) (wT cI o a v22.2.1) (wH cI cT hs hst ta ca v22.2.2) (wPd cI pd sg nm pp)) (p4_A (wX w o hs pd sl) (wT cI o a x23.2.1) (wH cI cT hs hst ta ca x23.2.2) (wPd cI pd sg nm pp)).symm rfl rfl rfl hl.1 rfl (Nat.le_of_ble_eq_true rfl) dL_isTimeSo_298 ⟨Nat.zero_le _, Nat.zero_le _⟩ (fun H locs hP hD hS => ?_)
                      refine lv_istore (lv' := [(5, .int x23.1), (6, .int v22.1), (0, .ref w), (1, .int a1), (3, .int x3), (4, .int v21)]) hx hb dL_isTimeSo_301 hl (by decide) rfl (fun ls hl => ?_)
                      refine lv_iload hx hb dL_isTimeSo_303 (lv_at hl 5 rfl) ?_
                      refine x_j (V := Int32) (nL := 7) (fun v25 => [(0, .ref w), (5, .int x23.1)]) 331 (fun v25 => [.int v25]) h (fun v25 h ls hl => ?_) (fun v25 h hj => ?_)
                      · refine lv_istore (lv' := [(4, .int v25), (0, .ref w), (5, .int x23.1)]) hx hb dL_isTimeSo_331 hl (by decide) rfl (fun ls hl => ?_)
                        refine lv_iload hx hb dL_isTimeSo_333 (lv_at hl 2 rfl) ?_
                        refine lv_if_lt (tgt := 345) hx hb dL_isTimeSo_335 (by decide) (fun c26 => ?_) (fun c26 => ?_)
                        · have h := xt c26 h
                          refine lv_iconst (v := 0) hx hb dL_isTimeSo_345 (by decide) ?_
                          refine lv_istore (lv' := [(6, .int (0 : Int32)), (4, .int v25), (0, .ref w), (5, .int x23.1)]) hx hb dL_isTimeSo_346 hl (by decide) rfl (fun ls hl => ?_)
                          refine lv_iload hx hb dL_isTimeSo_348 (lv_at hl 1 rfl) ?_
                          obtain ⟨x27, h28, h⟩ := bE h
                          obtain ⟨hz, ex27⟩ := gb_e h28
                          subst ex27
                          cases h
                          exact x_retM C0 (x_nz hz) hP hD hS dL_isTimeSo_350
                        · have h := xf c26 h
                          refine lv_aload_n hx hb dL_isTimeSo_338 rfl (lv_at hl 1 rfl) ?_
                          obtain ⟨x29, h30, h⟩ := bE h
                          refine x_MVp (As := []) (rest := []) (wr := []) (W1 := (wX w o hs pd sl) ++ (wT cI o a x29.2.1) ++ (wH cI cT hs hst ta ca x29.2.2) ++ (wPd cI pd sg nm pp)) hF (c_X3_undo l D cI cZ cT G _ w sl o a x23.2.1 hs hst ta ca x23.2.2 pd sg nm pp  x29 h30) (cwV 0 hts (gqV mw_378 mw_379 mw_380 mw_51 mw_297) rfl rfl rfl hd_X3_undo ⟨Nat.le_of_ble_eq_true rfl, Nat.le_of_ble_eq_true rfl⟩) hK hP hD hS hA q_E_bl (q_E_go hE hS (q_freep (p4_A (wX w o hs pd sl) (wT cI o a x23.2.1) (wH cI cT hs hst ta ca x23.2.2) (wPd cI pd sg nm pp)) hD hS hA)) (p4_A (wX w o hs pd sl) (wT cI o a x23.2.1) (wH cI cT hs hst ta ca x23.2.2) (wPd cI pd sg nm pp)) (p4_A (wX w o hs pd sl) (wT cI o a x29.2.1) (wH cI cT hs hst ta ca x29.2.2) (wPd cI pd sg nm pp)).symm rfl rfl rfl hl.1 rfl (Nat.le_of_ble_eq_true rfl) dL_isTimeSo_339 ⟨Nat.zero_le _, Nat.zero_le _⟩ (fun H locs hP hD hS => ?_)
                          refine lv_goto (tgt := 346) hx hb dL_isTimeSo_342 (by decide) ?_
                          refine lv_istore (lv' := [(6, .int x29.1), (4, .int v25), (0, .ref w), (5, .int x23.1)]) hx hb dL_isTimeSo_346 hl (by decide) rfl (fun ls hl => ?_)
                          refine lv_iload hx hb dL_isTimeSo_348 (lv_at hl 1 rfl) ?_
                          obtain ⟨x31, h32, h⟩ := bE h
                          obtain ⟨hz, ex31⟩ := gb_e h32
                          subst ex31
                          cases h
                          exact x_retM C0 (x_nz hz) hP hD hS dL_isTimeSo_350
                      · refine lv_if_eq (tgt := 330) hx hb dL_isTimeSo_305 (by decide) (fun c33 => ?_) (fun c33 => ?_)
                        · have h := xt c33 h
                          refine lv_iconst (v := 0) hx hb dL_isTimeSo_330 (by decide) ?_
                          cases h
                          exact hj _ (lv_sub hl [2, 0] rfl)
                        · have h := xf c33 h
                          refine lv_iload hx hb dL_isTimeSo_308 (lv_at hl 1 rfl) ?_
                          refine lv_if_lt (tgt := 330) hx hb dL_isTimeSo_310 (by decide) (fun c34 => ?_) (fun c34 => ?_)
                          · have h := xt c34 h
                            refine lv_iconst (v := 0) hx hb dL_isTimeSo_330 (by decide) ?_
                            cases h
                            exact hj _ (lv_sub hl [2, 0] rfl)
                          · have h := xf c34 h
                            refine lv_iload hx hb dL_isTimeSo_313 (lv_at hl 0 rfl) ?_
                            refine lv_if_lt (tgt := 326) hx hb dL_isTimeSo_315 (by decide) (fun c35 => ?_) (fun c35 => ?_)
                            · have h := xt c35 h
                              refine lv_iconst (v := 1) hx hb dL_isTimeSo_326 (by decide) ?_
                              refine lv_goto (tgt := 331) hx hb dL_isTimeSo_327 (by decide) ?_
                              cases h
                              exact hj _ (lv_sub hl [2, 0] rfl)
                            · have h := xf c35 h
                              refine lv_aload_n hx hb dL_isTimeSo_318 rfl (lv_at hl 2 rfl) ?_
                              refine lv_iload_n hx hb dL_isTimeSo_319 rfl (lv_at hl 3 rfl) ?_
                              obtain ⟨x36, h37, h⟩ := bE h
                              refine x_RV (As := [.int a1]) (rest := []) hF (c_X3_why l D cI cZ cT G (va_A ((wX w o hs pd sl) ++ (wT cI o a t) ++ (wH cI cT hs hst ta ca hh) ++ (wPd cI pd sg nm pp)) s.heap.size) w sl o a x23.2.1 hs hst ta ca x23.2.2 pd sg nm pp a1 x36 h37) (cwV 1 hts (gqV mw_356 mw_357 mw_358 mw_51 mw_284) rfl rfl rfl hd_X3_why ⟨Nat.le_of_ble_eq_true rfl, Nat.le_of_ble_eq_true rfl⟩) hK hP q_E_bl (q_E_go hE hS (fun _ h9 => h9)) [0, 1, 2, 3, 4, 5, 6, 7, 8, 9, 10, 11, 12, 13, 14, 15, 16, 17, 18, 19, 20, 21] rfl rfl rfl rfl hl.1 rfl (Nat.le_of_ble_eq_true rfl) dL_isTimeSo_320 ⟨Nat.zero_le _, Nat.zero_le _⟩ ?_
                              refine lv_if_ne (tgt := 330) hx hb dL_isTimeSo_323 (by decide) (fun c38 => ?_) (fun c38 => ?_)
                              · have h := xf c38 h
                                refine lv_iconst (v := 0) hx hb dL_isTimeSo_330 (by decide) ?_
                                cases h
                                exact hj _ (lv_sub hl [2, 0] rfl)
                              · have h := xt c38 h
                                refine lv_iconst (v := 1) hx hb dL_isTimeSo_326 (by decide) ?_
                                refine lv_goto (tgt := 331) hx hb dL_isTimeSo_327 (by decide) ?_
                                cases h
                                exact hj _ (lv_sub hl [2, 0] rfl)
                    · refine lv_icmp_le (tgt := 293) hx hb dL_isTimeSo_278 (by decide) (fun c39 => ?_) (fun c39 => ?_)
                      · have h := xt c39 h
                        refine lv_iconst (v := 0) hx hb dL_isTimeSo_293 (by decide) ?_
                        cases h
                        exact hj _ _ _ hP hD hS (lv_sub hl [1, 2, 3, 0] rfl)
                      · have h := xf c39 h
                        refine lv_iload hx hb dL_isTimeSo_281 (lv_at hl 4 rfl) ?_
                        refine lv_if_lt (tgt := 293) hx hb dL_isTimeSo_283 (by decide) (fun c40 => ?_) (fun c40 => ?_)
                        · have h := xt c40 h
                          refine lv_iconst (v := 0) hx hb dL_isTimeSo_293 (by decide) ?_
                          cases h
                          exact hj _ _ _ hP hD hS (lv_sub hl [1, 2, 3, 0] rfl)
                        · have h := xf c40 h
                          refine lv_aload_n hx hb dL_isTimeSo_286 rfl (lv_at hl 1 rfl) ?_
                          obtain ⟨x41, h42, h⟩ := bE h
                          refine x_MVp (As := []) (rest := []) (wr := []) (W1 := (wX w o hs pd sl) ++ (wT cI o a x41.2.1) ++ (wH cI cT hs hst ta ca x41.2.2) ++ (wPd cI pd sg nm pp)) hF (c_X3_undo l D cI cZ cT G _ w sl o a v20.2.1 hs hst ta ca v20.2.2 pd sg nm pp  x41 h42) (cwV 0 hts (gqV mw_378 mw_379 mw_380 mw_51 mw_297) rfl rfl rfl hd_X3_undo ⟨Nat.le_of_ble_eq_true rfl, Nat.le_of_ble_eq_true rfl⟩) hK hP hD hS hA q_E_bl (q_E_go hE hS (q_freep (p4_A (wX w o hs pd sl) (wT cI o a v20.2.1) (wH cI cT hs hst ta ca v20.2.2) (wPd cI pd sg nm pp)) hD hS hA)) (p4_A (wX w o hs pd sl) (wT cI o a v20.2.1) (wH cI cT hs hst ta ca v20.2.2) (wPd cI pd sg nm pp)) (p4_A (wX w o hs pd sl) (wT cI o a x41.2.1) (wH cI cT hs hst ta ca x41.2.2) (wPd cI pd sg nm pp)).symm rfl rfl rfl hl.1 rfl (Nat.le_of_ble_eq_true rfl) dL_isTimeSo_287 ⟨Nat.zero_le _, Nat.zero_le _⟩ (fun H locs hP hD hS => ?_)
                          refine lv_goto (tgt := 294) hx hb dL_isTimeSo_290 (by decide) ?_
                          cases h
                          exact hj _ _ _ hP hD hS (lv_sub hl [1, 2, 3, 0] rfl)
                  · refine lv_if_eq (tgt := 273) hx hb dL_isTimeSo_253 (by decide) (fun c43 => ?_) (fun c43 => ?_)
                    · have h := xt c43 h
                      refine lv_iconst (v := 0) hx hb dL_isTimeSo_273 (by decide) ?_
                      cases h
                      exact hj _ (lv_sub hl [1, 2, 3, 0] rfl)
                    · have h := xf c43 h
                      refine lv_iload hx hb dL_isTimeSo_256 (lv_at hl 0 rfl) ?_
                      refine lv_if_lt (tgt := 269) hx hb dL_isTimeSo_258 (by decide) (fun c44 => ?_) (fun c44 => ?_)
                      · have h := xt c44 h
                        refine lv_iconst (v := 1) hx hb dL_isTimeSo_269 (by decide) ?_
                        refine lv_goto (tgt := 274) hx hb dL_isTimeSo_270 (by decide) ?_
                        cases h
                        exact hj _ (lv_sub hl [1, 2, 3, 0] rfl)
                      · have h := xf c44 h
                        refine lv_aload_n hx hb dL_isTimeSo_261 rfl (lv_at hl 1 rfl) ?_
                        refine lv_iload_n hx hb dL_isTimeSo_262 rfl (lv_at hl 2 rfl) ?_
                        obtain ⟨x45, h46, h⟩ := bE h
                        refine x_RV (As := [.int a1]) (rest := []) hF (c_X3_why l D cI cZ cT G (va_A ((wX w o hs pd sl) ++ (wT cI o a t) ++ (wH cI cT hs hst ta ca hh) ++ (wPd cI pd sg nm pp)) s.heap.size) w sl o a v20.2.1 hs hst ta ca v20.2.2 pd sg nm pp a1 x45 h46) (cwV 1 hts (gqV mw_356 mw_357 mw_358 mw_51 mw_284) rfl rfl rfl hd_X3_why ⟨Nat.le_of_ble_eq_true rfl, Nat.le_of_ble_eq_true rfl⟩) hK hP q_E_bl (q_E_go hE hS (fun _ h9 => h9)) [0, 1, 2, 3, 4, 5, 6, 7, 8, 9, 10, 11, 12, 13, 14, 15, 16, 17, 18, 19, 20, 21] rfl rfl rfl rfl hl.1 rfl (Nat.le_of_ble_eq_true rfl) dL_isTimeSo_263 ⟨Nat.zero_le _, Nat.zero_le _⟩ ?_
                        refine lv_if_le (tgt := 273) hx hb dL_isTimeSo_266 (by decide) (fun c47 => ?_) (fun c47 => ?_)
                        · have h := xt c47 h
                          refine lv_iconst (v := 0) hx hb dL_isTimeSo_273 (by decide) ?_
                          cases h
                          exact hj _ (lv_sub hl [1, 2, 3, 0] rfl)
                        · have h := xf c47 h
                          refine lv_iconst (v := 1) hx hb dL_isTimeSo_269 (by decide) ?_
                          refine lv_goto (tgt := 274) hx hb dL_isTimeSo_270 (by decide) ?_
                          cases h
                          exact hj _ (lv_sub hl [1, 2, 3, 0] rfl)
                · refine lv_icmp_ne (tgt := 242) hx hb dL_isTimeSo_235 (by decide) (fun c48 => ?_) (fun c48 => ?_)
                  · have h := xf c48 h
                    refine lv_aload_n hx hb dL_isTimeSo_242 rfl (lv_at hl 0 rfl) ?_
                    refine lv_iload_n hx hb dL_isTimeSo_243 rfl (lv_at hl 2 rfl) ?_
                    refine lv_iconst (v := 1) hx hb dL_isTimeSo_244 (by decide) ?_
                    refine lv_isub hx hb dL_isTimeSo_245 ?_
                    obtain ⟨x49, h50, h⟩ := bE h
                    refine x_MVp (As := [.int (x3 - (1 : Int32))]) (rest := []) (wr := []) (W1 := (wX w o hs pd sl) ++ (wT cI o a x49.2.1) ++ (wH cI cT hs hst ta ca x49.2.2) ++ (wPd cI pd sg nm pp)) hF (c_X3_pass l D cI cZ cT G _ w sl o a v13.2.1 hs hst ta ca v13.2.2 pd sg nm pp (x3 - (1 : Int32)) x49 h50) (cwV 1 hts (gqV mw_336 mw_337 mw_338 mw_51 mw_265) rfl rfl rfl hd_X3_pass ⟨Nat.le_of_ble_eq_true rfl, Nat.le_of_ble_eq_true rfl⟩) hK hP hD hS hA q_E_bl (q_E_go hE hS (q_freep (p4_A (wX w o hs pd sl) (wT cI o a v13.2.1) (wH cI cT hs hst ta ca v13.2.2) (wPd cI pd sg nm pp)) hD hS hA)) (p4_A (wX w o hs pd sl) (wT cI o a v13.2.1) (wH cI cT hs hst ta ca v13.2.2) (wPd cI pd sg nm pp)) (p4_A (wX w o hs pd sl) (wT cI o a x49.2.1) (wH cI cT hs hst ta ca x49.2.2) (wPd cI pd sg nm pp)).symm rfl rfl rfl hl.1 rfl (Nat.le_of_ble_eq_true rfl) dL_isTimeSo_246 ⟨Nat.zero_le _, Nat.zero_le _⟩ (fun H locs hP hD hS => ?_)
                    cases h
                    exact hj _ _ _ hP hD hS (lv_sub hl [0, 1, 2, 3] rfl)
                  · have h := xt c48 h
                    refine lv_iconst (v := 0) hx hb dL_isTimeSo_238 (by decide) ?_
                    refine lv_goto (tgt := 249) hx hb dL_isTimeSo_239 (by decide) ?_
                    cases h
                    exact hj _ _ _ hP hD hS (lv_sub hl [0, 1, 2, 3] rfl)
          · refine lv_if_le (tgt := 223) hx hb dL_isTimeSo_97 (by decide) (fun c51 => ?_) (fun c51 => ?_)
            · have h := xt c51 h
              cases h
              exact hj _ _ _ hP hD hS (lv_sub hl [1, 2, 4, 0] rfl)
            · have h := xf c51 h
              refine lv_iload_n hx hb dL_isTimeSo_100 rfl (lv_at hl 3 rfl) ?_
              refine lv_bipush (v := 99) hx hb dL_isTimeSo_101 (by decide) ?_
              refine lv_icmp_ge (tgt := 223) hx hb dL_isTimeSo_103 (by decide) (fun c52 => ?_) (fun c52 => ?_)
              · have h := xt c52 h
                cases h
                exact hj _ _ _ hP hD hS (lv_sub hl [1, 2, 4, 0] rfl)
              · have h := xf c52 h
                refine lv_iload_n hx hb dL_isTimeSo_106 rfl (lv_at hl 3 rfl) ?_
                refine lv_iconst (v := 1) hx hb dL_isTimeSo_107 (by decide) ?_
                refine x_jM (V := Int32 × TT × HH) (nL := 7) (D := D) (A := (va_A ((wX w o hs pd sl) ++ (wT cI o a t) ++ (wH cI cT hs hst ta ca hh) ++ (wPd cI pd sg nm pp)) s.heap.size)) (H0 := s.heap) (fun v53 => [(0, .ref w), (1, .int a1), (2, .int x1), (3, .int x3), (4, .int v12)]) 122 (fun v53 => [.int v53.1]) (fun v53 => (wX w o hs pd sl) ++ (wT cI o a v53.2.1) ++ (wH cI cT hs hst ta ca v53.2.2) ++ (wPd cI pd sg nm pp)) h (fun v53 h H locs ls hP hD hS hl => ?_) (fun v53 h hj => ?_)
                · refine lv_istore (lv' := [(5, .int v53.1), (0, .ref w), (1, .int a1), (2, .int x1), (3, .int x3), (4, .int v12)]) hx hb dL_isTimeSo_122 hl (by decide) rfl (fun ls hl => ?_)
                  refine lv_iload hx hb dL_isTimeSo_124 (lv_at hl 5 rfl) ?_
                  refine x_j (V := Int32) (nL := 7) (fun v54 => [(0, .ref w), (1, .int a1), (2, .int x1), (3, .int x3), (5, .int v53.1)]) 149 (fun v54 => [.int v54]) h (fun v54 h ls hl => ?_) (fun v54 h hj => ?_)
                  · refine lv_istore (lv' := [(4, .int v54), (0, .ref w), (1, .int a1), (2, .int x1), (3, .int x3), (5, .int v53.1)]) hx hb dL_isTimeSo_149 hl (by decide) rfl (fun ls hl => ?_)
                    refine lv_iload_n hx hb dL_isTimeSo_151 rfl (lv_at hl 3 rfl) ?_
                    refine lv_iconst (v := 1) hx hb dL_isTimeSo_152 (by decide) ?_
                    refine x_jM (V := Int32 × TT × HH) (nL := 7) (D := D) (A := (va_A ((wX w o hs pd sl) ++ (wT cI o a t) ++ (wH cI cT hs hst ta ca hh) ++ (wPd cI pd sg nm pp)) s.heap.size)) (H0 := s.heap) (fun v55 => [(0, .ref w), (1, .int a1), (2, .int x1), (3, .int x3), (4, .int v54)]) 169 (fun v55 => [.int v55.1]) (fun v55 => (wX w o hs pd sl) ++ (wT cI o a v55.2.1) ++ (wH cI cT hs hst ta ca v55.2.2) ++ (wPd cI pd sg nm pp)) h (fun v55 h H locs ls hP hD hS hl => ?_) (fun v55 h hj => ?_)
                    · refine lv_istore (lv' := [(6, .int v55.1), (0, .ref w), (1, .int a1), (2, .int x1), (3, .int x3), (4, .int v54)]) hx hb dL_isTimeSo_169 hl (by decide) rfl (fun ls hl => ?_)
                      refine lv_aload_n hx hb dL_isTimeSo_171 rfl (lv_at hl 1 rfl) ?_
                      refine lv_iload_n hx hb dL_isTimeSo_172 rfl (lv_at hl 3 rfl) ?_
                      obtain ⟨x56, h57, h⟩ := bE h
                      refine x_MVp (As := [.int x1]) (rest := []) (wr := []) (W1 := (wX w o hs pd sl) ++ (wT cI o a x56.2.1) ++ (wH cI cT hs hst ta ca x56.2.2) ++ (wPd cI pd sg nm pp)) hF (c_X3_pass l D cI cZ cT G _ w sl o a v55.2.1 hs hst ta ca v55.2.2 pd sg nm pp x1 x56 h57) (cwV 1 hts (gqV mw_336 mw_337 mw_338 mw_51 mw_265) rfl rfl rfl hd_X3_pass ⟨Nat.le_of_ble_eq_true rfl, Nat.le_of_ble_eq_true rfl⟩) hK hP hD hS hA q_E_bl (q_E_go hE hS (q_freep (p4_A (wX w o hs pd sl) (wT cI o a v55.2.1) (wH cI cT hs hst ta ca v55.2.2) (wPd cI pd sg nm pp)) hD hS hA)) (p4_A (wX w o hs pd sl) (wT cI o a v55.2.1) (wH cI cT hs hst ta ca v55.2.2) (wPd cI pd sg nm pp)) (p4_A (wX w o hs pd sl) (wT cI o a x56.2.1) (wH cI cT hs hst ta ca x56.2.2) (wPd cI pd sg nm pp)).symm rfl rfl rfl hl.1 rfl (Nat.le_of_ble_eq_true rfl) dL_isTimeSo_173 ⟨Nat.zero_le _, Nat.zero_le _⟩ (fun H locs hP hD hS => ?_)
                      refine lv_istore (lv' := [(5, .int x56.1), (6, .int v55.1), (0, .ref w), (1, .int a1), (2, .int x1), (3, .int x3), (4, .int v54)]) hx hb dL_isTimeSo_176 hl (by decide) rfl (fun ls hl => ?_)
                      refine lv_iload hx hb dL_isTimeSo_178 (lv_at hl 6 rfl) ?_
                      refine x_j (V := Int32) (nL := 7) (fun v58 => [(0, .ref w), (1, .int a1), (3, .int x3), (5, .int x56.1)]) 206 (fun v58 => [.int v58]) h (fun v58 h ls hl => ?_) (fun v58 h hj => ?_)
                      · refine lv_istore (lv' := [(4, .int v58), (0, .ref w), (1, .int a1), (3, .int x3), (5, .int x56.1)]) hx hb dL_isTimeSo_206 hl (by decide) rfl (fun ls hl => ?_)
                        refine lv_iload hx hb dL_isTimeSo_208 (lv_at hl 4 rfl) ?_
                        refine lv_if_lt (tgt := 220) hx hb dL_isTimeSo_210 (by decide) (fun c59 => ?_) (fun c59 => ?_)
                        · have h := xt c59 h
                          refine lv_iconst (v := 0) hx hb dL_isTimeSo_220 (by decide) ?_
                          refine lv_istore (lv' := [(6, .int (0 : Int32)), (4, .int v58), (0, .ref w), (1, .int a1), (3, .int x3), (5, .int x56.1)]) hx hb dL_isTimeSo_221 hl (by decide) rfl (fun ls hl => ?_)
                          cases h
                          exact hj _ _ _ hP hD hS (lv_sub hl [2, 3, 4, 1] rfl)
                        · have h := xf c59 h
                          refine lv_aload_n hx hb dL_isTimeSo_213 rfl (lv_at hl 1 rfl) ?_
                          obtain ⟨x60, h61, h⟩ := bE h
                          refine x_MVp (As := []) (rest := []) (wr := []) (W1 := (wX w o hs pd sl) ++ (wT cI o a x60.2.1) ++ (wH cI cT hs hst ta ca x60.2.2) ++ (wPd cI pd sg nm pp)) hF (c_X3_undo l D cI cZ cT G _ w sl o a x56.2.1 hs hst ta ca x56.2.2 pd sg nm pp  x60 h61) (cwV 0 hts (gqV mw_378 mw_379 mw_380 mw_51 mw_297) rfl rfl rfl hd_X3_undo ⟨Nat.le_of_ble_eq_true rfl, Nat.le_of_ble_eq_true rfl⟩) hK hP hD hS hA q_E_bl (q_E_go hE hS (q_freep (p4_A (wX w o hs pd sl) (wT cI o a x56.2.1) (wH cI cT hs hst ta ca x56.2.2) (wPd cI pd sg nm pp)) hD hS hA)) (p4_A (wX w o hs pd sl) (wT cI o a x56.2.1) (wH cI cT hs hst ta ca x56.2.2) (wPd cI pd sg nm pp)) (p4_A (wX w o hs pd sl) (wT cI o a x60.2.1) (wH cI cT hs hst ta ca x60.2.2) (wPd cI pd sg nm pp)).symm rfl rfl rfl hl.1 rfl (Nat.le_of_ble_eq_true rfl) dL_isTimeSo_214 ⟨Nat.zero_le _, Nat.zero_le _⟩ (fun H locs hP hD hS => ?_)
                          refine lv_goto (tgt := 221) hx hb dL_isTimeSo_217 (by decide) ?_
                          refine lv_istore (lv' := [(6, .int x60.1), (4, .int v58), (0, .ref w), (1, .int a1), (3, .int x3), (5, .int x56.1)]) hx hb dL_isTimeSo_221 hl (by decide) rfl (fun ls hl => ?_)
                          cases h
                          exact hj _ _ _ hP hD hS (lv_sub hl [2, 3, 4, 1] rfl)
                      · refine lv_if_eq (tgt := 205) hx hb dL_isTimeSo_180 (by decide) (fun c62 => ?_) (fun c62 => ?_)
                        · have h := xt c62 h
                          refine lv_iconst (v := 0) hx hb dL_isTimeSo_205 (by decide) ?_
                          cases h
                          exact hj _ (lv_sub hl [2, 3, 5, 0] rfl)
                        · have h := xf c62 h
                          refine lv_iload hx hb dL_isTimeSo_183 (lv_at hl 1 rfl) ?_
                          refine lv_if_lt (tgt := 205) hx hb dL_isTimeSo_185 (by decide) (fun c63 => ?_) (fun c63 => ?_)
                          · have h := xt c63 h
                            refine lv_iconst (v := 0) hx hb dL_isTimeSo_205 (by decide) ?_
                            cases h
                            exact hj _ (lv_sub hl [2, 3, 5, 0] rfl)
                          · have h := xf c63 h
                            refine lv_iload hx hb dL_isTimeSo_188 (lv_at hl 0 rfl) ?_
                            refine lv_if_lt (tgt := 201) hx hb dL_isTimeSo_190 (by decide) (fun c64 => ?_) (fun c64 => ?_)
                            · have h := xt c64 h
                              refine lv_iconst (v := 1) hx hb dL_isTimeSo_201 (by decide) ?_
                              refine lv_goto (tgt := 206) hx hb dL_isTimeSo_202 (by decide) ?_
                              cases h
                              exact hj _ (lv_sub hl [2, 3, 5, 0] rfl)
                            · have h := xf c64 h
                              refine lv_aload_n hx hb dL_isTimeSo_193 rfl (lv_at hl 2 rfl) ?_
                              refine lv_iload_n hx hb dL_isTimeSo_194 rfl (lv_at hl 3 rfl) ?_
                              obtain ⟨x65, h66, h⟩ := bE h
                              refine x_RV (As := [.int a1]) (rest := []) hF (c_X3_firstWay l D cI cZ cT G (va_A ((wX w o hs pd sl) ++ (wT cI o a t) ++ (wH cI cT hs hst ta ca hh) ++ (wPd cI pd sg nm pp)) s.heap.size) w sl o a x56.2.1 hs hst ta ca x56.2.2 pd sg nm pp a1 x65 h66) (cwV 1 hts (gqV mw_353 mw_354 mw_355 mw_51 mw_286) rfl rfl rfl hd_X3_firstWay ⟨Nat.le_of_ble_eq_true rfl, Nat.le_of_ble_eq_true rfl⟩) hK hP q_E_bl (q_E_go hE hS (fun _ h9 => h9)) [0, 1, 2, 3, 4, 5, 6, 7, 8, 9, 10, 11, 12, 13, 14, 15, 16, 17, 18, 19, 20, 21] rfl rfl rfl rfl hl.1 rfl (Nat.le_of_ble_eq_true rfl) dL_isTimeSo_195 ⟨Nat.zero_le _, Nat.zero_le _⟩ ?_
                              refine lv_if_lt (tgt := 205) hx hb dL_isTimeSo_198 (by decide) (fun c67 => ?_) (fun c67 => ?_)
                              · have h := xt c67 h
                                refine lv_iconst (v := 0) hx hb dL_isTimeSo_205 (by decide) ?_
                                cases h
                                exact hj _ (lv_sub hl [2, 3, 5, 0] rfl)
                              · have h := xf c67 h
                                refine lv_iconst (v := 1) hx hb dL_isTimeSo_201 (by decide) ?_
                                refine lv_goto (tgt := 206) hx hb dL_isTimeSo_202 (by decide) ?_
                                cases h
                                exact hj _ (lv_sub hl [2, 3, 5, 0] rfl)
                    · refine lv_icmp_le (tgt := 168) hx hb dL_isTimeSo_153 (by decide) (fun c68 => ?_) (fun c68 => ?_)
                      · have h := xt c68 h
                        refine lv_iconst (v := 0) hx hb dL_isTimeSo_168 (by decide) ?_
                        cases h
                        exact hj _ _ _ hP hD hS (lv_sub hl [1, 2, 3, 4, 0] rfl)
                      · have h := xf c68 h
                        refine lv_iload hx hb dL_isTimeSo_156 (lv_at hl 5 rfl) ?_
                        refine lv_if_lt (tgt := 168) hx hb dL_isTimeSo_158 (by decide) (fun c69 => ?_) (fun c69 => ?_)
                        · have h := xt c69 h
                          refine lv_iconst (v := 0) hx hb dL_isTimeSo_168 (by decide) ?_
                          cases h
                          exact hj _ _ _ hP hD hS (lv_sub hl [1, 2, 3, 4, 0] rfl)
                        · have h := xf c69 h
                          refine lv_aload_n hx hb dL_isTimeSo_161 rfl (lv_at hl 1 rfl) ?_
                          obtain ⟨x70, h71, h⟩ := bE h
                          refine x_MVp (As := []) (rest := []) (wr := []) (W1 := (wX w o hs pd sl) ++ (wT cI o a x70.2.1) ++ (wH cI cT hs hst ta ca x70.2.2) ++ (wPd cI pd sg nm pp)) hF (c_X3_undo l D cI cZ cT G _ w sl o a v53.2.1 hs hst ta ca v53.2.2 pd sg nm pp  x70 h71) (cwV 0 hts (gqV mw_378 mw_379 mw_380 mw_51 mw_297) rfl rfl rfl hd_X3_undo ⟨Nat.le_of_ble_eq_true rfl, Nat.le_of_ble_eq_true rfl⟩) hK hP hD hS hA q_E_bl (q_E_go hE hS (q_freep (p4_A (wX w o hs pd sl) (wT cI o a v53.2.1) (wH cI cT hs hst ta ca v53.2.2) (wPd cI pd sg nm pp)) hD hS hA)) (p4_A (wX w o hs pd sl) (wT cI o a v53.2.1) (wH cI cT hs hst ta ca v53.2.2) (wPd cI pd sg nm pp)) (p4_A (wX w o hs pd sl) (wT cI o a x70.2.1) (wH cI cT hs hst ta ca x70.2.2) (wPd cI pd sg nm pp)).symm rfl rfl rfl hl.1 rfl (Nat.le_of_ble_eq_true rfl) dL_isTimeSo_162 ⟨Nat.zero_le _, Nat.zero_le _⟩ (fun H locs hP hD hS => ?_)
                          refine lv_goto (tgt := 169) hx hb dL_isTimeSo_165 (by decide) ?_
                          cases h
                          exact hj _ _ _ hP hD hS (lv_sub hl [1, 2, 3, 4, 0] rfl)
                  · refine lv_if_eq (tgt := 148) hx hb dL_isTimeSo_126 (by decide) (fun c72 => ?_) (fun c72 => ?_)
                    · have h := xt c72 h
                      refine lv_iconst (v := 0) hx hb dL_isTimeSo_148 (by decide) ?_
                      cases h
                      exact hj _ (lv_sub hl [1, 2, 3, 4, 0] rfl)
                    · have h := xf c72 h
                      refine lv_iload hx hb dL_isTimeSo_129 (lv_at hl 0 rfl) ?_
                      refine lv_if_lt (tgt := 144) hx hb dL_isTimeSo_131 (by decide) (fun c73 => ?_) (fun c73 => ?_)
                      · have h := xt c73 h
                        refine lv_iconst (v := 1) hx hb dL_isTimeSo_144 (by decide) ?_
                        refine lv_goto (tgt := 149) hx hb dL_isTimeSo_145 (by decide) ?_
                        cases h
                        exact hj _ (lv_sub hl [1, 2, 3, 4, 0] rfl)
                      · have h := xf c73 h
                        refine lv_aload_n hx hb dL_isTimeSo_134 rfl (lv_at hl 1 rfl) ?_
                        refine lv_iload_n hx hb dL_isTimeSo_135 rfl (lv_at hl 2 rfl) ?_
                        obtain ⟨x74, h75, h⟩ := bE h
                        refine x_RV (As := [.int a1]) (rest := []) hF (c_X3_firstWay l D cI cZ cT G (va_A ((wX w o hs pd sl) ++ (wT cI o a t) ++ (wH cI cT hs hst ta ca hh) ++ (wPd cI pd sg nm pp)) s.heap.size) w sl o a v53.2.1 hs hst ta ca v53.2.2 pd sg nm pp a1 x74 h75) (cwV 1 hts (gqV mw_353 mw_354 mw_355 mw_51 mw_286) rfl rfl rfl hd_X3_firstWay ⟨Nat.le_of_ble_eq_true rfl, Nat.le_of_ble_eq_true rfl⟩) hK hP q_E_bl (q_E_go hE hS (fun _ h9 => h9)) [0, 1, 2, 3, 4, 5, 6, 7, 8, 9, 10, 11, 12, 13, 14, 15, 16, 17, 18, 19, 20, 21] rfl rfl rfl rfl hl.1 rfl (Nat.le_of_ble_eq_true rfl) dL_isTimeSo_136 ⟨Nat.zero_le _, Nat.zero_le _⟩ ?_
                        refine lv_bipush (v := (-6)) hx hb dL_isTimeSo_139 (by decide) ?_
                        refine lv_icmp_ne (tgt := 148) hx hb dL_isTimeSo_141 (by decide) (fun c76 => ?_) (fun c76 => ?_)
                        · have h := xf c76 h
                          refine lv_iconst (v := 0) hx hb dL_isTimeSo_148 (by decide) ?_
                          cases h
                          exact hj _ (lv_sub hl [1, 2, 3, 4, 0] rfl)
                        · have h := xt c76 h
                          refine lv_iconst (v := 1) hx hb dL_isTimeSo_144 (by decide) ?_
                          refine lv_goto (tgt := 149) hx hb dL_isTimeSo_145 (by decide) ?_
                          cases h
                          exact hj _ (lv_sub hl [1, 2, 3, 4, 0] rfl)
                · refine lv_icmp_ne (tgt := 115) hx hb dL_isTimeSo_108 (by decide) (fun c77 => ?_) (fun c77 => ?_)
                  · have h := xf c77 h
                    refine lv_aload_n hx hb dL_isTimeSo_115 rfl (lv_at hl 1 rfl) ?_
                    refine lv_iload_n hx hb dL_isTimeSo_116 rfl (lv_at hl 3 rfl) ?_
                    refine lv_iconst (v := 1) hx hb dL_isTimeSo_117 (by decide) ?_
                    refine lv_isub hx hb dL_isTimeSo_118 ?_
                    obtain ⟨x78, h79, h⟩ := bE h
                    refine x_MVp (As := [.int (x1 - (1 : Int32))]) (rest := []) (wr := []) (W1 := (wX w o hs pd sl) ++ (wT cI o a x78.2.1) ++ (wH cI cT hs hst ta ca x78.2.2) ++ (wPd cI pd sg nm pp)) hF (c_X3_pass l D cI cZ cT G _ w sl o a t hs hst ta ca hh pd sg nm pp (x1 - (1 : Int32)) x78 h79) (cwV 1 hts (gqV mw_336 mw_337 mw_338 mw_51 mw_265) rfl rfl rfl hd_X3_pass ⟨Nat.le_of_ble_eq_true rfl, Nat.le_of_ble_eq_true rfl⟩) hK hP hD hS hA q_E_bl (q_E_go hE hS (q_freep (p4_A (wX w o hs pd sl) (wT cI o a t) (wH cI cT hs hst ta ca hh) (wPd cI pd sg nm pp)) hD hS hA)) (p4_A (wX w o hs pd sl) (wT cI o a t) (wH cI cT hs hst ta ca hh) (wPd cI pd sg nm pp)) (p4_A (wX w o hs pd sl) (wT cI o a x78.2.1) (wH cI cT hs hst ta ca x78.2.2) (wPd cI pd sg nm pp)).symm rfl rfl rfl hl.1 rfl (Nat.le_of_ble_eq_true rfl) dL_isTimeSo_119 ⟨Nat.zero_le _, Nat.zero_le _⟩ (fun H locs hP hD hS => ?_)
                    cases h
                    exact hj _ _ _ hP hD hS (lv_sub hl [1, 2, 3, 4, 0] rfl)
                  · have h := xt c77 h
                    refine lv_iconst (v := 0) hx hb dL_isTimeSo_111 (by decide) ?_
                    refine lv_goto (tgt := 122) hx hb dL_isTimeSo_112 (by decide) ?_
                    cases h
                    exact hj _ _ _ hP hD hS (lv_sub hl [1, 2, 3, 4, 0] rfl)
        · refine lv_icmp_ne (tgt := 93) hx hb dL_isTimeSo_61 (by decide) (fun c80 => ?_) (fun c80 => ?_)
          · have h := xf c80 h
            refine lv_iconst (v := 0) hx hb dL_isTimeSo_93 (by decide) ?_
            cases h
            exact hj _ (lv_sub hl [0, 1, 2, 3] rfl)
          · have h := xt c80 h
            refine lv_iload_n hx hb dL_isTimeSo_64 rfl (lv_at hl 3 rfl) ?_
            refine x_j (V := Int32) (nL := 7) (fun v81 => [(0, .ref w), (1, .int a1), (2, .int x1), (3, .int x3)]) 73 (fun v81 => [.int v81]) h (fun v81 h ls hl => ?_) (fun v81 h hj => ?_)
            · refine lv_aload_n hx hb dL_isTimeSo_73 rfl (lv_at hl 0 rfl) ?_
              refine lv_iload_n hx hb dL_isTimeSo_74 rfl (lv_at hl 1 rfl) ?_
              obtain ⟨x82, h83, h⟩ := bE h
              refine x_RV (As := [.int a1]) (rest := [.int v81]) hF (c_X3_why l D cI cZ cT G (va_A ((wX w o hs pd sl) ++ (wT cI o a t) ++ (wH cI cT hs hst ta ca hh) ++ (wPd cI pd sg nm pp)) s.heap.size) w sl o a t hs hst ta ca hh pd sg nm pp a1 x82 h83) (cwV 1 hts (gqV mw_356 mw_357 mw_358 mw_51 mw_284) rfl rfl rfl hd_X3_why ⟨Nat.le_of_ble_eq_true rfl, Nat.le_of_ble_eq_true rfl⟩) hK hP q_E_bl (q_E_go hE hS (fun _ h9 => h9)) [0, 1, 2, 3, 4, 5, 6, 7, 8, 9, 10, 11, 12, 13, 14, 15, 16, 17, 18, 19, 20, 21] rfl rfl rfl rfl hl.1 rfl (Nat.le_of_ble_eq_true rfl) dL_isTimeSo_75 ⟨Nat.zero_le _, Nat.zero_le _⟩ ?_
              refine x_j (V := Int32) (nL := 7) (fun v84 => [(0, .ref w), (1, .int a1), (2, .int x1), (3, .int x3)]) 86 (fun v84 => [.int v84, .int v81]) h (fun v84 h ls hl => ?_) (fun v84 h hj => ?_)
              · refine lv_icmp_ne (tgt := 93) hx hb dL_isTimeSo_86 (by decide) (fun c85 => ?_) (fun c85 => ?_)
                · have h := xf c85 h
                  refine lv_iconst (v := 0) hx hb dL_isTimeSo_93 (by decide) ?_
                  cases h
                  exact hj _ (lv_sub hl [0, 1, 2, 3] rfl)
                · have h := xt c85 h
                  refine lv_iconst (v := 1) hx hb dL_isTimeSo_89 (by decide) ?_
                  refine lv_goto (tgt := 94) hx hb dL_isTimeSo_90 (by decide) ?_
                  cases h
                  exact hj _ (lv_sub hl [0, 1, 2, 3] rfl)
              · refine lv_if_ne (tgt := 85) hx hb dL_isTimeSo_78 (by decide) (fun c86 => ?_) (fun c86 => ?_)
                · have h := xf c86 h
                  refine lv_iconst (v := 0) hx hb dL_isTimeSo_85 (by decide) ?_
                  cases h
                  exact hj _ (lv_sub hl [0, 1, 2, 3] rfl)
                · have h := xt c86 h
                  refine lv_iconst (v := 1) hx hb dL_isTimeSo_81 (by decide) ?_
                  refine lv_goto (tgt := 86) hx hb dL_isTimeSo_82 (by decide) ?_
                  cases h
                  exact hj _ (lv_sub hl [0, 1, 2, 3] rfl)
            · refine lv_if_ne (tgt := 72) hx hb dL_isTimeSo_65 (by decide) (fun c87 => ?_) (fun c87 => ?_)
              · have h := xf c87 h
                refine lv_iconst (v := 0) hx hb dL_isTimeSo_72 (by decide) ?_
                cases h
                exact hj _ (lv_sub hl [0, 1, 2, 3] rfl)
              · have h := xt c87 h
                refine lv_iconst (v := 1) hx hb dL_isTimeSo_68 (by decide) ?_
                refine lv_goto (tgt := 73) hx hb dL_isTimeSo_69 (by decide) ?_
                cases h
                exact hj _ (lv_sub hl [0, 1, 2, 3] rfl)
      · refine lv_if_lt (tgt := 60) hx hb dL_isTimeSo_53 (by decide) (fun c88 => ?_) (fun c88 => ?_)
        · have h := xt c88 h
          refine lv_iconst (v := 0) hx hb dL_isTimeSo_60 (by decide) ?_
          cases h
          exact hj _ (lv_sub hl [0, 1, 2, 3] rfl)
        · have h := xf c88 h
          refine lv_iconst (v := 1) hx hb dL_isTimeSo_56 (by decide) ?_
          refine lv_goto (tgt := 61) hx hb dL_isTimeSo_57 (by decide) ?_
          cases h
          exact hj _ (lv_sub hl [0, 1, 2, 3] rfl)
    · refine lv_if_ne (tgt := 47) hx hb dL_isTimeSo_40 (by decide) (fun c89 => ?_) (fun c89 => ?_)
      · have h := xf c89 h
        refine lv_iconst (v := 0) hx hb dL_isTimeSo_47 (by decide) ?_
        cases h
        exact hj _ (lv_sub hl [2, 3, 1, 0] rfl)
      · have h := xt c89 h
        refine lv_iconst (v := 1) hx hb dL_isTimeSo_43 (by decide) ?_
        refine lv_goto (tgt := 48) hx hb dL_isTimeSo_44 (by decide) ?_
        cases h
        exact hj _ (lv_sub hl [2, 3, 1, 0] rfl)
  · have h := xf c7 h
    refine lv_iload_n hx hb dL_isTimeSo_21 rfl (lv_at hl 1 rfl) ?_
    refine lv_bipush (v := (-5)) hx hb dL_isTimeSo_22 (by decide) ?_
    refine lv_icmp_ne (tgt := 37) hx hb dL_isTimeSo_24 (by decide) (fun c90 => ?_) (fun c90 => ?_)
    · have h := xf c90 h
      refine lv_iconst (v := 0) hx hb dL_isTimeSo_37 (by decide) ?_
      cases h
      exact x_retM C0 narrow_b0 hP hD hS dL_isTimeSo_38
    · have h := xt c90 h
      refine lv_iload_n hx hb dL_isTimeSo_27 rfl (lv_at hl 0 rfl) ?_
      refine lv_bipush (v := (-5)) hx hb dL_isTimeSo_28 (by decide) ?_
      refine lv_icmp_ne (tgt := 37) hx hb dL_isTimeSo_30 (by decide) (fun c91 => ?_) (fun c91 => ?_)
      · have h := xf c91 h
        refine lv_iconst (v := 0) hx hb dL_isTimeSo_37 (by decide) ?_
        cases h
        exact x_retM C0 narrow_b0 hP hD hS dL_isTimeSo_38
      · have h := xt c91 h
        refine lv_iconst (v := 1) hx hb dL_isTimeSo_33 (by decide) ?_
        refine lv_goto (tgt := 38) hx hb dL_isTimeSo_34 (by decide) ?_
        cases h
        exact x_retM C0 narrow_b1 hP hD hS dL_isTimeSo_38

end G_LF

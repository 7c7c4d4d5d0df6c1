section G_LC
variable {p : Program} {l : Launch} {e : Env} {s : State} {m : MethodId} {args : Array Value} {below : List Frame} {meth : Method} {c : Code} {D : va_G} {cI cZ cT : ClassId}

/-! QuarrelWaysLaw.ways (LQuarrelWays;IIIII)I -/
abbrev rm_L_ways : Room := { frames := 7, cells := 0, slots := 0, locals := 158 }
theorem hd_L_ways : yL_ways.cls = RL ∧ yL_ways.cls ≠ "java/lang/invoke/MethodHandle" ∧ yL_ways.cls ≠ "java/lang/invoke/VarHandle" ∧ (parseMethodDescriptor yL_ways.desc).map (fun d => d.parameters.length) = some 6 := by decide +kernel
set_option maxHeartbeats 4000000 in
set_option maxRecDepth 100000 in
theorem k_L_ways_L164 {Q : State → Prop} {v : Int32} (w sl : Nat) (o a : Nat) (z1 : TT) (hs hst : Nat) (ta ca : Nat → Nat) (z2 : HH) (pd sg nm : Nat) (z3 : PP) (y1 : Int32) (y2 : Int32) (y5 : Int32) (y9 : Int32) {G : q_G} {A : Nat → Prop} (hE : q_E G A s) (C0 : q_At p s m args meth c cL_ways 14 (some .int) RL) (hK : va_K D vwCl (q_tys cI cZ cT) s) (hP : va_P D vwCl ((wX w o hs pd sl) ++ (wT cI o a z1) ++ (wH cI cT hs hst ta ca z2) ++ (wPd cI pd sg nm z3)) s.heap) (hj : ∀ (ls : Array Slot), lv_has ls 14 [(9, .int y9), (10, .int v)] → W p l e rm_L_ways s m args below meth c s.heap [] 0 0 Q (F0 m 304 ls [])) : ∀ (n : Nat) (y10 : Int32) (y11 : Int32) (ls : Array Slot), lv_has ls 14 [(0, .ref w), (1, .int y1), (2, .int y2), (5, .int y5), (9, .int y9), (10, .int y10), (11, .int y11)] → f_L_ways_L164 z1 z2 z3 y1 y2 y5 y9 n y10 y11 = some v → W p l e rm_L_ways s m args below meth c s.heap [] 0 0 (Q) (F0 m 164 ls []) := by
  obtain ⟨hx, hb, hr, hml, hown, hts, hlocks⟩ := id C0
  have hF : CallFix p m c cL_ways 14 s args BW RL := ⟨hx, hb, hml, hown, hts⟩
  have hS : va_S A s.heap s.heap [] := va_S.rf
  intro n
  induction n with
  | zero =>
    intro y10 y11 ls hl h
    rw [f_L_ways_L164] at h
    cases h
  | succ n ih =>
    intro y10 y11 ls hl h
    rw [f_L_ways_L164] at h
    refine lv_aload_n hx hb dL_ways_164 rfl (lv_at hl 0 rfl) ?_
    refine lv_iload hx hb dL_ways_165 (lv_at hl 6 rfl) ?_
    refine lv_iconst (v := 0) hx hb dL_ways_167 (by decide) ?_
    obtain ⟨x18, h19, h⟩ := bE h
    refine x_RV (As := [.int y11, .int (0 : Int32)]) (rest := []) hF (c_X3_record l D cI cZ cT G A w sl o a z1 hs hst ta ca z2 pd sg nm z3 y11 (0 : Int32) x18 h19) (cwV 2 hts (gqV mw_344 mw_345 mw_346 mw_51 mw_272) rfl rfl rfl hd_X3_record ⟨Nat.le_of_ble_eq_true rfl, Nat.le_of_ble_eq_true rfl⟩) hK hP q_E_bl (q_E_go hE hS (fun _ h9 => h9)) [0, 1, 2, 3, 4, 5, 6, 7, 8, 9, 10, 11, 12, 13, 14, 15, 16, 17, 18, 19, 20, 21] rfl rfl rfl rfl hl.1 rfl (Nat.le_of_ble_eq_true rfl) dL_ways_168 ⟨Nat.zero_le _, Nat.zero_le _⟩ ?_
    refine lv_if_lt (tgt := 304) hx hb dL_ways_171 (by decide) (fun c20 => ?_) (fun c20 => ?_)
    · have h := xt c20 h
      cases h
      exact hj _ (lv_sub hl [4, 5] rfl)
    · have h := xf c20 h
      refine lv_iload hx hb dL_ways_174 (lv_at hl 6 rfl) ?_
      refine lv_bipush (v := 12) hx hb dL_ways_176 (by decide) ?_
      refine lv_icmp_ge (tgt := 304) hx hb dL_ways_178 (by decide) (fun c21 => ?_) (fun c21 => ?_)
      · have h := xt c21 h
        cases h
        exact hj _ (lv_sub hl [4, 5] rfl)
      · have h := xf c21 h
        refine lv_aload_n hx hb dL_ways_181 rfl (lv_at hl 0 rfl) ?_
        refine lv_iload hx hb dL_ways_182 (lv_at hl 6 rfl) ?_
        refine lv_iconst (v := 2) hx hb dL_ways_184 (by decide) ?_
        obtain ⟨x22, h23, h⟩ := bE h
        refine x_RV (As := [.int y11, .int (2 : Int32)]) (rest := []) hF (c_X3_record l D cI cZ cT G A w sl o a z1 hs hst ta ca z2 pd sg nm z3 y11 (2 : Int32) x22 h23) (cwV 2 hts (gqV mw_344 mw_345 mw_346 mw_51 mw_272) rfl rfl rfl hd_X3_record ⟨Nat.le_of_ble_eq_true rfl, Nat.le_of_ble_eq_true rfl⟩) hK hP q_E_bl (q_E_go hE hS (fun _ h9 => h9)) [0, 1, 2, 3, 4, 5, 6, 7, 8, 9, 10, 11, 12, 13, 14, 15, 16, 17, 18, 19, 20, 21] rfl rfl rfl rfl hl.1 rfl (Nat.le_of_ble_eq_true rfl) dL_ways_185 ⟨Nat.zero_le _, Nat.zero_le _⟩ ?_
        refine lv_istore (lv' := [(12, .int x22), (0, .ref w), (1, .int y1), (2, .int y2), (5, .int y5), (9, .int y9), (10, .int y10), (11, .int y11)]) hx hb dL_ways_188 hl (by decide) rfl (fun ls hl => ?_)
        refine lv_aload_n hx hb dL_ways_190 rfl (lv_at hl 1 rfl) ?_
        refine lv_iload hx hb dL_ways_191 (lv_at hl 7 rfl) ?_
        refine lv_iconst (v := 0) hx hb dL_ways_193 (by decide) ?_
        obtain ⟨x24, h25, h⟩ := bE h
        refine x_RV (As := [.int y11, .int (0 : Int32)]) (rest := []) hF (c_X3_record l D cI cZ cT G A w sl o a z1 hs hst ta ca z2 pd sg nm z3 y11 (0 : Int32) x24 h25) (cwV 2 hts (gqV mw_344 mw_345 mw_346 mw_51 mw_272) rfl rfl rfl hd_X3_record ⟨Nat.le_of_ble_eq_true rfl, Nat.le_of_ble_eq_true rfl⟩) hK hP q_E_bl (q_E_go hE hS (fun _ h9 => h9)) [0, 1, 2, 3, 4, 5, 6, 7, 8, 9, 10, 11, 12, 13, 14, 15, 16, 17, 18, 19, 20, 21] rfl rfl rfl rfl hl.1 rfl (Nat.le_of_ble_eq_true rfl) dL_ways_194 ⟨Nat.zero_le _, Nat.zero_le _⟩ ?_
        refine lv_iconst (v := 1) hx hb dL_ways_197 (by decide) ?_
        refine x_j (V := Int32) (nL := 14) (fun v26 => [(0, .ref w), (1, .int y1), (2, .int y2), (5, .int y5), (9, .int y9), (10, .int y10), (11, .int y11), (12, .int x22)]) 213 (fun v26 => [.int v26]) h (fun v26 h ls hl => ?_) (fun v26 h hj => ?_)
        · refine lv_istore (lv' := [(13, .int v26), (0, .ref w), (1, .int y1), (2, .int y2), (5, .int y5), (9, .int y9), (10, .int y10), (11, .int y11), (12, .int x22)]) hx hb dL_ways_213 hl (by decide) rfl (fun ls hl => ?_)
          refine lv_iload hx hb dL_ways_215 (lv_at hl 6 rfl) ?_
          refine lv_if_ne (tgt := 291) hx hb dL_ways_217 (by decide) (fun c27 => ?_) (fun c27 => ?_)
          · have h := xf c27 h
            refine lv_iconst (v := 1) hx hb dL_ways_291 (by decide) ?_
            refine lv_goto (tgt := 296) hx hb dL_ways_292 (by decide) ?_
            refine lv_istore (lv' := [(10, .int (1 : Int32)), (13, .int v26), (0, .ref w), (1, .int y1), (2, .int y2), (5, .int y5), (9, .int y9), (11, .int y11), (12, .int x22)]) hx hb dL_ways_296 hl (by decide) rfl (fun ls hl => ?_)
            refine lv_iinc (v := (y11 + (1 : Int32))) (lv' := [(11, .int (y11 + (1 : Int32))), (10, .int (1 : Int32)), (13, .int v26), (0, .ref w), (1, .int y1), (2, .int y2), (5, .int y5), (9, .int y9), (12, .int x22)]) hx hb dL_ways_298 hl (k := 7) rfl rfl (by decide) rfl (fun ls hl => ?_)
            refine lv_goto (tgt := 164) hx hb dL_ways_301 (by decide) ?_
            exact ih (1 : Int32) (y11 + (1 : Int32)) _ (lv_sub hl [3, 4, 5, 6, 7, 1, 0] rfl) h
          · have h := xt c27 h
            refine lv_iload hx hb dL_ways_220 (lv_at hl 0 rfl) ?_
            refine lv_if_eq (tgt := 295) hx hb dL_ways_222 (by decide) (fun c28 => ?_) (fun c28 => ?_)
            · have h := xt c28 h
              refine lv_iconst (v := 0) hx hb dL_ways_295 (by decide) ?_
              refine lv_istore (lv' := [(10, .int (0 : Int32)), (13, .int v26), (0, .ref w), (1, .int y1), (2, .int y2), (5, .int y5), (9, .int y9), (11, .int y11), (12, .int x22)]) hx hb dL_ways_296 hl (by decide) rfl (fun ls hl => ?_)
              refine lv_iinc (v := (y11 + (1 : Int32))) (lv' := [(11, .int (y11 + (1 : Int32))), (10, .int (0 : Int32)), (13, .int v26), (0, .ref w), (1, .int y1), (2, .int y2), (5, .int y5), (9, .int y9), (12, .int x22)]) hx hb dL_ways_298 hl (k := 7) rfl rfl (by decide) rfl (fun ls hl => ?_)
              refine lv_goto (tgt := 164) hx hb dL_ways_301 (by decide) ?_
              exact ih (0 : Int32) (y11 + (1 : Int32)) _ (lv_sub hl [3, 4, 5, 6, 7, 1, 0] rfl) h
            · have h := xf c28 h
              refine lv_aload_n hx hb dL_ways_225 rfl (lv_at hl 1 rfl) ?_
              refine lv_iconst (v := 0) hx hb dL_ways_226 (by decide) ?_
              obtain ⟨x29, h30, h⟩ := bE h
              refine x_RV (As := [.int (0 : Int32)]) (rest := []) hF (c_X3_count l D cI cZ cT G A w sl o a z1 hs hst ta ca z2 pd sg nm z3 (0 : Int32) x29 h30) (cwV 1 hts (gqV mw_304 mw_305 mw_306 mw_51 mw_283) rfl rfl rfl hd_X3_count ⟨Nat.le_of_ble_eq_true rfl, Nat.le_of_ble_eq_true rfl⟩) hK hP q_E_bl (q_E_go hE hS (fun _ h9 => h9)) [0, 1, 2, 3, 4, 5, 6, 7, 8, 9, 10, 11, 12, 13, 14, 15, 16, 17, 18, 19, 20, 21] rfl rfl rfl rfl hl.1 rfl (Nat.le_of_ble_eq_true rfl) dL_ways_227 ⟨Nat.zero_le _, Nat.zero_le _⟩ ?_
              refine lv_aload_n hx hb dL_ways_230 rfl (lv_at hl 1 rfl) ?_
              refine lv_iload hx hb dL_ways_231 (lv_at hl 7 rfl) ?_
              refine lv_iconst (v := 1) hx hb dL_ways_233 (by decide) ?_
              obtain ⟨x31, h32, h⟩ := bE h
              refine x_RV (As := [.int y11, .int (1 : Int32)]) (rest := [.int x29]) hF (c_X3_record l D cI cZ cT G A w sl o a z1 hs hst ta ca z2 pd sg nm z3 y11 (1 : Int32) x31 h32) (cwV 2 hts (gqV mw_344 mw_345 mw_346 mw_51 mw_272) rfl rfl rfl hd_X3_record ⟨Nat.le_of_ble_eq_true rfl, Nat.le_of_ble_eq_true rfl⟩) hK hP q_E_bl (q_E_go hE hS (fun _ h9 => h9)) [0, 1, 2, 3, 4, 5, 6, 7, 8, 9, 10, 11, 12, 13, 14, 15, 16, 17, 18, 19, 20, 21] rfl rfl rfl rfl hl.1 rfl (Nat.le_of_ble_eq_true rfl) dL_ways_234 ⟨Nat.zero_le _, Nat.zero_le _⟩ ?_
              refine lv_isub hx hb dL_ways_237 ?_
              refine lv_aload_n hx hb dL_ways_238 rfl (lv_at hl 1 rfl) ?_
              refine lv_bipush (v := 12) hx hb dL_ways_239 (by decide) ?_
              obtain ⟨x33, h34, h⟩ := bE h
              refine x_RV (As := [.int (12 : Int32)]) (rest := [.int (x29 - x31)]) hF (c_X3_count l D cI cZ cT G A w sl o a z1 hs hst ta ca z2 pd sg nm z3 (12 : Int32) x33 h34) (cwV 1 hts (gqV mw_304 mw_305 mw_306 mw_51 mw_283) rfl rfl rfl hd_X3_count ⟨Nat.le_of_ble_eq_true rfl, Nat.le_of_ble_eq_true rfl⟩) hK hP q_E_bl (q_E_go hE hS (fun _ h9 => h9)) [0, 1, 2, 3, 4, 5, 6, 7, 8, 9, 10, 11, 12, 13, 14, 15, 16, 17, 18, 19, 20, 21] rfl rfl rfl rfl hl.1 rfl (Nat.le_of_ble_eq_true rfl) dL_ways_241 ⟨Nat.zero_le _, Nat.zero_le _⟩ ?_
              refine lv_icmp_gt (tgt := 295) hx hb dL_ways_244 (by decide) (fun c35 => ?_) (fun c35 => ?_)
              · have h := xt c35 h
                refine lv_iconst (v := 0) hx hb dL_ways_295 (by decide) ?_
                refine lv_istore (lv' := [(10, .int (0 : Int32)), (13, .int v26), (0, .ref w), (1, .int y1), (2, .int y2), (5, .int y5), (9, .int y9), (11, .int y11), (12, .int x22)]) hx hb dL_ways_296 hl (by decide) rfl (fun ls hl => ?_)
                refine lv_iinc (v := (y11 + (1 : Int32))) (lv' := [(11, .int (y11 + (1 : Int32))), (10, .int (0 : Int32)), (13, .int v26), (0, .ref w), (1, .int y1), (2, .int y2), (5, .int y5), (9, .int y9), (12, .int x22)]) hx hb dL_ways_298 hl (k := 7) rfl rfl (by decide) rfl (fun ls hl => ?_)
                refine lv_goto (tgt := 164) hx hb dL_ways_301 (by decide) ?_
                exact ih (0 : Int32) (y11 + (1 : Int32)) _ (lv_sub hl [3, 4, 5, 6, 7, 1, 0] rfl) h
              · have h := xf c35 h
                refine lv_aload_n hx hb dL_ways_247 rfl (lv_at hl 1 rfl) ?_
                refine lv_iload hx hb dL_ways_248 (lv_at hl 8 rfl) ?_
                refine lv_iconst (v := 0) hx hb dL_ways_250 (by decide) ?_
                obtain ⟨x36, h37, h⟩ := bE h
                refine x_RV (As := [.int x22, .int (0 : Int32)]) (rest := []) hF (c_X3_quarrel l D cI cZ cT G A w sl o a z1 hs hst ta ca z2 pd sg nm z3 x22 (0 : Int32) x36 h37) (cwV 2 hts (gqV mw_347 mw_348 mw_349 mw_51 mw_271) rfl rfl rfl hd_X3_quarrel ⟨Nat.le_of_ble_eq_true rfl, Nat.le_of_ble_eq_true rfl⟩) hK hP q_E_bl (q_E_go hE hS (fun _ h9 => h9)) [0, 1, 2, 3, 4, 5, 6, 7, 8, 9, 10, 11, 12, 13, 14, 15, 16, 17, 18, 19, 20, 21] rfl rfl rfl rfl hl.1 rfl (Nat.le_of_ble_eq_true rfl) dL_ways_251 ⟨Nat.zero_le _, Nat.zero_le _⟩ ?_
                refine lv_iload_n hx hb dL_ways_254 rfl (lv_at hl 2 rfl) ?_
                refine lv_icmp_ne (tgt := 269) hx hb dL_ways_255 (by decide) (fun c38 => ?_) (fun c38 => ?_)
                · have h := xf c38 h
                  refine lv_aload_n hx hb dL_ways_269 rfl (lv_at hl 1 rfl) ?_
                  refine lv_iload hx hb dL_ways_270 (lv_at hl 8 rfl) ?_
                  refine lv_iconst (v := 0) hx hb dL_ways_272 (by decide) ?_
                  obtain ⟨x39, h40, h⟩ := bE h
                  refine x_RV (As := [.int x22, .int (0 : Int32)]) (rest := []) hF (c_X3_quarrel l D cI cZ cT G A w sl o a z1 hs hst ta ca z2 pd sg nm z3 x22 (0 : Int32) x39 h40) (cwV 2 hts (gqV mw_347 mw_348 mw_349 mw_51 mw_271) rfl rfl rfl hd_X3_quarrel ⟨Nat.le_of_ble_eq_true rfl, Nat.le_of_ble_eq_true rfl⟩) hK hP q_E_bl (q_E_go hE hS (fun _ h9 => h9)) [0, 1, 2, 3, 4, 5, 6, 7, 8, 9, 10, 11, 12, 13, 14, 15, 16, 17, 18, 19, 20, 21] rfl rfl rfl rfl hl.1 rfl (Nat.le_of_ble_eq_true rfl) dL_ways_273 ⟨Nat.zero_le _, Nat.zero_le _⟩ ?_
                  refine lv_iload_n hx hb dL_ways_276 rfl (lv_at hl 3 rfl) ?_
                  refine lv_icmp_ne (tgt := 295) hx hb dL_ways_277 (by decide) (fun c41 => ?_) (fun c41 => ?_)
                  · have h := xf c41 h
                    refine lv_iconst (v := 0) hx hb dL_ways_295 (by decide) ?_
                    refine lv_istore (lv' := [(10, .int (0 : Int32)), (13, .int v26), (0, .ref w), (1, .int y1), (2, .int y2), (5, .int y5), (9, .int y9), (11, .int y11), (12, .int x22)]) hx hb dL_ways_296 hl (by decide) rfl (fun ls hl => ?_)
                    refine lv_iinc (v := (y11 + (1 : Int32))) (lv' := [(11, .int (y11 + (1 : Int32))), (10, .int (0 : Int32)), (13, .int v26), (0, .ref w), (1, .int y1), (2, .int y2), (5, .int y5), (9, .int y9), (12, .int x22)]) hx hb dL_ways_298 hl (k := 7) rfl rfl (by decide) rfl (fun ls hl => ?_)
                    refine lv_goto (tgt := 164) hx hb dL_ways_301 (by decide) ?_
                    exact ih (0 : Int32) (y11 + (1 : Int32)) _ (lv_sub hl [3, 4, 5, 6, 7, 1, 0] rfl) h
                  · have h := xt c41 h
                    refine lv_aload_n hx hb dL_ways_280 rfl (lv_at hl 1 rfl) ?_
                    refine lv_iload hx hb dL_ways_281 (lv_at hl 8 rfl) ?_
                    refine lv_iconst (v := 1) hx hb dL_ways_283 (by decide) ?_
                    obtain ⟨x42, h43, h⟩ := bE h
                    refine x_RV (As := [.int x22, .int (1 : Int32)]) (rest := []) hF (c_X3_quarrel l D cI cZ cT G A w sl o a z1 hs hst ta ca z2 pd sg nm z3 x22 (1 : Int32) x42 h43) (cwV 2 hts (gqV mw_347 mw_348 mw_349 mw_51 mw_271) rfl rfl rfl hd_X3_quarrel ⟨Nat.le_of_ble_eq_true rfl, Nat.le_of_ble_eq_true rfl⟩) hK hP q_E_bl (q_E_go hE hS (fun _ h9 => h9)) [0, 1, 2, 3, 4, 5, 6, 7, 8, 9, 10, 11, 12, 13, 14, 15, 16, 17, 18, 19, 20, 21] rfl rfl rfl rfl hl.1 rfl (Nat.le_of_ble_eq_true rfl) dL_ways_284 ⟨Nat.zero_le _, Nat.zero_le _⟩ ?_
                    refine lv_iload_n hx hb dL_ways_287 rfl (lv_at hl 2 rfl) ?_
                    refine lv_icmp_ne (tgt := 295) hx hb dL_ways_288 (by decide) (fun c44 => ?_) (fun c44 => ?_)
                    · have h := xf c44 h
                      refine lv_iconst (v := 0) hx hb dL_ways_295 (by decide) ?_
                      refine lv_istore (lv' := [(10, .int (0 : Int32)), (13, .int v26), (0, .ref w), (1, .int y1), (2, .int y2), (5, .int y5), (9, .int y9), (11, .int y11), (12, .int x22)]) hx hb dL_ways_296 hl (by decide) rfl (fun ls hl => ?_)
                      refine lv_iinc (v := (y11 + (1 : Int32))) (lv' := [(11, .int (y11 + (1 : Int32))), (10, .int (0 : Int32)), (13, .int v26), (0, .ref w), (1, .int y1), (2, .int y2), (5, .int y5), (9, .int y9), (12, .int x22)]) hx hb dL_ways_298 hl (k := 7) rfl rfl (by decide) rfl (fun ls hl => ?_)
                      refine lv_goto (tgt := 164) hx hb dL_ways_301 (by decide) ?_
                      exact ih (0 : Int32) (y11 + (1 : Int32)) _ (lv_sub hl [3, 4, 5, 6, 7, 1, 0] rfl) h
                    · have h := xt c44 h
                      refine lv_iconst (v := 1) hx hb dL_ways_291 (by decide) ?_
                      refine lv_goto (tgt := 296) hx hb dL_ways_292 (by decide) ?_
                      refine lv_istore (lv' := [(10, .int (1 : Int32)), (13, .int v26), (0, .ref w), (1, .int y1), (2, .int y2), (5, .int y5), (9, .int y9), (11, .int y11), (12, .int x22)]) hx hb dL_ways_296 hl (by decide) rfl (fun ls hl => ?_)
                      refine lv_iinc (v := (y11 + (1 : Int32))) (lv' := [(11, .int (y11 + (1 : Int32))), (10, .int (1 : Int32)), (13, .int v26), (0, .ref w), (1, .int y1), (2, .int y2), (5, .int y5), (9, .int y9), (12, .int x22)]) hx hb dL_ways_298 hl (k := 7) rfl rfl (by decide) rfl (fun ls hl => ?_)
                      refine lv_goto (tgt := 164) hx hb dL_ways_301 (by decide) ?_
                      exact ih (1 : Int32) (y11 + (1 : Int32)) _ (lv_sub hl [3, 4, 5, 6, 7, 1, 0] rfl) h
                · have h := xt c38 h
                  refine lv_aload_n hx hb dL_ways_258 rfl (lv_at hl 1 rfl) ?_
                  refine lv_iload hx hb dL_ways_259 (lv_at hl 8 rfl) ?_
                  refine lv_iconst (v := 1) hx hb dL_ways_261 (by decide) ?_
                  obtain ⟨x45, h46, h⟩ := bE h
                  refine x_RV (As := [.int x22, .int (1 : Int32)]) (rest := []) hF (c_X3_quarrel l D cI cZ cT G A w sl o a z1 hs hst ta ca z2 pd sg nm z3 x22 (1 : Int32) x45 h46) (cwV 2 hts (gqV mw_347 mw_348 mw_349 mw_51 mw_271) rfl rfl rfl hd_X3_quarrel ⟨Nat.le_of_ble_eq_true rfl, Nat.le_of_ble_eq_true rfl⟩) hK hP q_E_bl (q_E_go hE hS (fun _ h9 => h9)) [0, 1, 2, 3, 4, 5, 6, 7, 8, 9, 10, 11, 12, 13, 14, 15, 16, 17, 18, 19, 20, 21] rfl rfl rfl rfl hl.1 rfl (Nat.le_of_ble_eq_true rfl) dL_ways_262 ⟨Nat.zero_le _, Nat.zero_le _⟩ ?_
                  refine lv_iload_n hx hb dL_ways_265 rfl (lv_at hl 3 rfl) ?_
                  refine lv_icmp_eq (tgt := 291) hx hb dL_ways_266 (by decide) (fun c47 => ?_) (fun c47 => ?_)
                  · have h := xt c47 h
                    refine lv_iconst (v := 1) hx hb dL_ways_291 (by decide) ?_
                    refine lv_goto (tgt := 296) hx hb dL_ways_292 (by decide) ?_
                    refine lv_istore (lv' := [(10, .int (1 : Int32)), (13, .int v26), (0, .ref w), (1, .int y1), (2, .int y2), (5, .int y5), (9, .int y9), (11, .int y11), (12, .int x22)]) hx hb dL_ways_296 hl (by decide) rfl (fun ls hl => ?_)
                    refine lv_iinc (v := (y11 + (1 : Int32))) (lv' := [(11, .int (y11 + (1 : Int32))), (10, .int (1 : Int32)), (13, .int v26), (0, .ref w), (1, .int y1), (2, .int y2), (5, .int y5), (9, .int y9), (12, .int x22)]) hx hb dL_ways_298 hl (k := 7) rfl rfl (by decide) rfl (fun ls hl => ?_)
                    refine lv_goto (tgt := 164) hx hb dL_ways_301 (by decide) ?_
                    exact ih (1 : Int32) (y11 + (1 : Int32)) _ (lv_sub hl [3, 4, 5, 6, 7, 1, 0] rfl) h
                  · have h := xf c47 h
                    refine lv_aload_n hx hb dL_ways_269 rfl (lv_at hl 1 rfl) ?_
                    refine lv_iload hx hb dL_ways_270 (lv_at hl 8 rfl) ?_
                    refine lv_iconst (v := 0) hx hb dL_ways_272 (by decide) ?_
                    obtain ⟨x48, h49, h⟩ := bE h
                    refine x_RV (As := [.int x22, .int (0 : Int32)]) (rest := []) hF (c_X3_quarrel l D cI cZ cT G A w sl o a z1 hs hst ta ca z2 pd sg nm z3 x22 (0 : Int32) x48 h49) (cwV 2 hts (gqV mw_347 mw_348 mw_349 mw_51 mw_271) rfl rfl rfl hd_X3_quarrel ⟨Nat.le_of_ble_eq_true rfl, Nat.le_of_ble_eq_true rfl⟩) hK hP q_E_bl (q_E_go hE hS (fun _ h9 => h9)) [0, 1, 2, 3, 4, 5, 6, 7, 8, 9, 10, 11, 12, 13, 14, 15, 16, 17, 18, 19, 20, 21] rfl rfl rfl rfl hl.1 rfl (Nat.le_of_ble_eq_true rfl) dL_ways_273 ⟨Nat.zero_le _, Nat.zero_le _⟩ ?_
                    refine lv_iload_n hx hb dL_ways_276 rfl (lv_at hl 3 rfl) ?_
                    refine lv_icmp_ne (tgt := 295) hx hb dL_ways_277 (by decide) (fun c50 => ?_) (fun c50 => ?_)
                    · have h := xf c50 h
                      refine lv_iconst (v := 0) hx hb dL_ways_295 (by decide) ?_
                      refine lv_istore (lv' := [(10, .int (0 : Int32)), (13, .int v26), (0, .ref w), (1, .int y1), (2, .int y2), (5, .int y5), (9, .int y9), (11, .int y11), (12, .int x22)]) hx hb dL_ways_296 hl (by decide) rfl (fun ls hl => ?_)
                      refine lv_iinc (v := (y11 + (1 : Int32))) (lv' := [(11, .int (y11 + (1 : Int32))), (10, .int (0 : Int32)), (13, .int v26), (0, .ref w), (1, .int y1), (2, .int y2), (5, .int y5), (9, .int y9), (12, .int x22)]) hx hb dL_ways_298 hl (k := 7) rfl rfl (by decide) rfl (fun ls hl => ?_)
                      refine lv_goto (tgt := 164) hx hb dL_ways_301 (by decide) ?_
                      exact ih (0 : Int32) (y11 + (1 : Int32)) _ (lv_sub hl [3, 4, 5, 6, 7, 1, 0] rfl) h
                    · have h := xt c50 h
                      refine lv_aload_n hx hb dL_ways_280 rfl (lv_at hl 1 rfl) ?_
                      refine lv_iload hx hb dL_ways_281 (lv_at hl 8 rfl) ?_
                      refine lv_iconst (v := 1) hx hb dL_ways_283 (by decide) ?_
                      obtain ⟨x51, h52, h⟩ := bE h
                      refine x_RV (As := [.int x22, .int (1 : Int32)]) (rest := []) hF (c_X3_quarrel l D cI cZ cT G A w sl o a z1 hs hst ta ca z2 pd sg nm z3 x22 (1 : Int32) x51 h52) (cwV 2 hts (gqV mw_347 mw_348 mw_349 mw_51 mw_271) rfl rfl rfl hd_X3_quarrel ⟨Nat.le_of_ble_eq_true rfl, Nat.le_of_ble_eq_true rfl⟩) hK hP q_E_bl (q_E_go hE hS (fun _ h9 => h9)) [0, 1, 2, 3, 4, 5, 6, 7, 8, 9, 10, 11, 12, 13, 14, 15, 16, 17, 18, 19, 20, 21] rfl rfl rfl rfl hl.1 rfl (Nat.le_of_ble_eq_true rfl) dL_ways_284 ⟨Nat.zero_le _, Nat.zero_le _⟩ ?_
                      refine lv_iload_n hx hb dL_ways_287 rfl (lv_at hl 2 rfl) ?_
                      refine lv_icmp_ne (tgt := 295) hx hb dL_ways_288 (by decide) (fun c53 => ?_) (fun c53 => ?_)
                      · have h := xf c53 h
                        refine lv_iconst (v := 0) hx hb dL_ways_295 (by decide) ?_
                        refine lv_istore (lv' := [(10, .int (0 : Int32)), (13, .int v26), (0, .ref w), (1, .int y1), (2, .int y2), (5, .int y5), (9, .int y9), (11, .int y11), (12, .int x22)]) hx hb dL_ways_296 hl (by decide) rfl (fun ls hl => ?_)
                        refine lv_iinc (v := (y11 + (1 : Int32))) (lv' := [(11, .int (y11 + (1 : Int32))), (10, .int (0 : Int32)), (13, .int v26), (0, .ref w), (1, .int y1), (2, .int y2), (5, .int y5), (9, .int y9), (12, .int x22)]) hx hb dL_ways_298 hl (k := 7) rfl rfl (by decide) rfl (fun ls hl => ?_)
                        refine lv_goto (tgt := 164) hx hb dL_ways_301 (by decide) ?_
                        exact ih (0 : Int32) (y11 + (1 : Int32)) _ (lv_sub hl [3, 4, 5, 6, 7, 1, 0] rfl) h
                      · have h := xt c53 h
                        refine lv_iconst (v := 1) hx hb dL_ways_291 (by decide) ?_
                        refine lv_goto (tgt := 296) hx hb dL_ways_292 (by decide) ?_
                        refine lv_istore (lv' := [(10, .int (1 : Int32)), (13, .int v26), (0, .ref w), (1, .int y1), (2, .int y2), (5, .int y5), (9, .int y9), (11, .int y11), (12, .int x22)]) hx hb dL_ways_296 hl (by decide) rfl (fun ls hl => ?_)
                        refine lv_iinc (v := (y11 + (1 : Int32))) (lv' := [(11, .int (y11 + (1 : Int32))), (10, .int (1 : Int32)), (13, .int v26), (0, .ref w), (1, .int y1), (2, .int y2), (5, .int y5), (9, .int y9), (12, .int x22)]) hx hb dL_ways_298 hl (k := 7) rfl rfl (by decide) rfl (fun ls hl => ?_)
                        refine lv_goto (tgt := 164) hx hb dL_ways_301 (by decide) ?_
                        exact ih (1 : Int32) (y11 + (1 : Int32)) _ (lv_sub hl [3, 4, 5, 6, 7, 1, 0] rfl) h
        · refine lv_icmp_ne (tgt := 212) hx hb dL_ways_198 (by decide) (fun c54 => ?_) (fun c54 => ?_)
          · have h := xf c54 h
            refine lv_iconst (v := 0) hx hb dL_ways_212 (by decide) ?_
            cases h
            exact hj _ (lv_sub hl [1, 2, 3, 4, 5, 6, 7, 0] rfl)
          · have h := xt c54 h
            refine lv_iload hx hb dL_ways_201 (lv_at hl 0 rfl) ?_
            refine lv_iload hx hb dL_ways_203 (lv_at hl 4 rfl) ?_
            refine lv_icmp_eq (tgt := 212) hx hb dL_ways_205 (by decide) (fun c55 => ?_) (fun c55 => ?_)
            · have h := xt c55 h
              refine lv_iconst (v := 0) hx hb dL_ways_212 (by decide) ?_
              cases h
              exact hj _ (lv_sub hl [1, 2, 3, 4, 5, 6, 7, 0] rfl)
            · have h := xf c55 h
              refine lv_iconst (v := 1) hx hb dL_ways_208 (by decide) ?_
              refine lv_goto (tgt := 213) hx hb dL_ways_209 (by decide) ?_
              cases h
              exact hj _ (lv_sub hl [1, 2, 3, 4, 5, 6, 7, 0] rfl)
set_option maxHeartbeats 4000000 in
set_option maxRecDepth 100000 in
theorem c_L_ways (l : Launch) (D : va_G) (cI cZ cT : ClassId) (G : q_G) (A : Nat → Prop) (w sl : Nat) (o a : Nat) (t : TT) (hs hst : Nat) (ta ca : Nat → Nat) (hh : HH) (pd sg nm : Nat) (pp : PP) (a1 : Int32) (a2 : Int32) (a3 : Int32) (a4 : Int32) (a5 : Int32) (r : Int32) (h : f_L_ways t hh pp a1 a2 a3 a4 a5 = some r) : Met l yL_ways (wq yL_ways cL_ways 14 (some .int)) rm_L_ways (q_R D (q_tys cI cZ cT) ((wX w o hs pd sl) ++ (wT cI o a t) ++ (wH cI cT hs hst ta ca hh) ++ (wPd cI pd sg nm pp)) (q_E G A) [.ref w, .int a1, .int a2, .int a3, .int a4, .int a5]) (vp_Si (fun r' => r' = r)) 0 0 (fun _ => False) := by
  refine q_RI (cc := cL_ways) (maxL := 14) (ret := (some .int)) (plainFor_of_name (by decide)) (Nat.le_of_ble_eq_true rfl) (fun p e s m below meth c C0 hP hK hE ls hl => ?_)
  have hE : q_E G A s := hE
  have hS : va_S A s.heap s.heap [] := va_S.rf
  have hl : lv_has ls 14 [(0, .ref w), (1, .int a1), (2, .int a2), (3, .int a3), (4, .int a4), (5, .int a5)] := hl
  obtain ⟨hx, hb, hr, hml, hown, hts, hlocks⟩ := id C0
  have hF : CallFix p m c cL_ways 14 s _ BW RL := ⟨hx, hb, hml, hown, hts⟩
  rw [f_L_ways] at h
  refine lv_aload_n hx hb dL_ways_0 rfl (lv_at hl 0 rfl) ?_
  refine lv_iload_n hx hb dL_ways_1 rfl (lv_at hl 1 rfl) ?_
  refine lv_iconst (v := 2) hx hb dL_ways_2 (by decide) ?_
  obtain ⟨x1, h2, h⟩ := bE h
  refine x_RV (As := [.int a1, .int (2 : Int32)]) (rest := []) hF (c_X3_of l D cI cZ cT G A w sl o a t hs hst ta ca hh pd sg nm pp a1 (2 : Int32) x1 h2) (cwV 2 hts (gqV mw_341 mw_342 mw_343 mw_51 mw_268) rfl rfl rfl hd_X3_of ⟨Nat.le_of_ble_eq_true rfl, Nat.le_of_ble_eq_true rfl⟩) hK hP q_E_bl (q_E_go hE hS (fun _ h9 => h9)) [0, 1, 2, 3, 4, 5, 6, 7, 8, 9, 10, 11, 12, 13, 14, 15, 16, 17, 18, 19, 20, 21] rfl rfl rfl rfl hl.1 rfl (Nat.le_of_ble_eq_true rfl) dL_ways_3 ⟨Nat.zero_le _, Nat.zero_le _⟩ ?_
  refine lv_istore (lv' := [(6, .int x1), (0, .ref w), (1, .int a1), (2, .int a2), (3, .int a3), (4, .int a4), (5, .int a5)]) hx hb dL_ways_6 hl (by decide) rfl (fun ls hl => ?_)
  refine lv_aload_n hx hb dL_ways_8 rfl (lv_at hl 1 rfl) ?_
  refine lv_iload_n hx hb dL_ways_9 rfl (lv_at hl 3 rfl) ?_
  refine lv_iconst (v := 2) hx hb dL_ways_10 (by decide) ?_
  obtain ⟨x3, h4, h⟩ := bE h
  refine x_RV (As := [.int a2, .int (2 : Int32)]) (rest := []) hF (c_X3_of l D cI cZ cT G A w sl o a t hs hst ta ca hh pd sg nm pp a2 (2 : Int32) x3 h4) (cwV 2 hts (gqV mw_341 mw_342 mw_343 mw_51 mw_268) rfl rfl rfl hd_X3_of ⟨Nat.le_of_ble_eq_true rfl, Nat.le_of_ble_eq_true rfl⟩) hK hP q_E_bl (q_E_go hE hS (fun _ h9 => h9)) [0, 1, 2, 3, 4, 5, 6, 7, 8, 9, 10, 11, 12, 13, 14, 15, 16, 17, 18, 19, 20, 21] rfl rfl rfl rfl hl.1 rfl (Nat.le_of_ble_eq_true rfl) dL_ways_11 ⟨Nat.zero_le _, Nat.zero_le _⟩ ?_
  refine lv_istore (lv' := [(7, .int x3), (6, .int x1), (0, .ref w), (1, .int a1), (2, .int a2), (3, .int a3), (4, .int a4), (5, .int a5)]) hx hb dL_ways_14 hl (by decide) rfl (fun ls hl => ?_)
  refine lv_iload hx hb dL_ways_16 (lv_at hl 1 rfl) ?_
  refine x_j (V := Int32) (nL := 14) (fun v5 => [(0, .ref w), (1, .int a1), (2, .int a2), (3, .int a3), (4, .int a4), (5, .int a5)]) 71 (fun v5 => [.int v5]) h (fun v5 h ls hl => ?_) (fun v5 h hj => ?_)
  · refine lv_istore (lv' := [(8, .int v5), (0, .ref w), (1, .int a1), (2, .int a2), (3, .int a3), (4, .int a4), (5, .int a5)]) hx hb dL_ways_71 hl (by decide) rfl (fun ls hl => ?_)
    refine lv_aload_n hx hb dL_ways_73 rfl (lv_at hl 1 rfl) ?_
    refine lv_iload_n hx hb dL_ways_74 rfl (lv_at hl 2 rfl) ?_
    refine lv_iconst (v := 0) hx hb dL_ways_75 (by decide) ?_
    obtain ⟨x6, h7, h⟩ := bE h
    refine x_RV (As := [.int a1, .int (0 : Int32)]) (rest := []) hF (c_X3_of l D cI cZ cT G A w sl o a t hs hst ta ca hh pd sg nm pp a1 (0 : Int32) x6 h7) (cwV 2 hts (gqV mw_341 mw_342 mw_343 mw_51 mw_268) rfl rfl rfl hd_X3_of ⟨Nat.le_of_ble_eq_true rfl, Nat.le_of_ble_eq_true rfl⟩) hK hP q_E_bl (q_E_go hE hS (fun _ h9 => h9)) [0, 1, 2, 3, 4, 5, 6, 7, 8, 9, 10, 11, 12, 13, 14, 15, 16, 17, 18, 19, 20, 21] rfl rfl rfl rfl hl.1 rfl (Nat.le_of_ble_eq_true rfl) dL_ways_76 ⟨Nat.zero_le _, Nat.zero_le _⟩ ?_
    refine lv_iload_n hx hb dL_ways_79 rfl (lv_at hl 4 rfl) ?_
    refine lv_iadd hx hb dL_ways_80 ?_
    refine lv_bipush (v := 10) hx hb dL_ways_81 (by decide) ?_
    refine x_j (V := Int32) (nL := 14) (fun v8 => [(0, .ref w), (1, .int a1), (2, .int a2), (3, .int a3), (4, .int a4), (5, .int a5), (8, .int v5)]) 91 (fun v8 => [.int v8]) h (fun v8 h ls hl => ?_) (fun v8 h hj => ?_)
    · refine lv_istore (lv' := [(9, .int v8), (0, .ref w), (1, .int a1), (2, .int a2), (3, .int a3), (4, .int a4), (5, .int a5), (8, .int v5)]) hx hb dL_ways_91 hl (by decide) rfl (fun ls hl => ?_)
      refine lv_iload hx hb dL_ways_93 (lv_at hl 0 rfl) ?_
      refine lv_iload hx hb dL_ways_95 (lv_at hl 7 rfl) ?_
      refine x_j (V := Int32) (nL := 14) (fun v9 => [(0, .ref w), (1, .int a1), (2, .int a2), (3, .int a3), (4, .int a4), (5, .int a5)]) 105 (fun v9 => [.int v9, .int v8]) h (fun v9 h ls hl => ?_) (fun v9 h hj => ?_)
      · refine lv_iadd hx hb dL_ways_105 ?_
        refine lv_istore (lv' := [(9, .int (v8 + v9)), (0, .ref w), (1, .int a1), (2, .int a2), (3, .int a3), (4, .int a4), (5, .int a5)]) hx hb dL_ways_106 hl (by decide) rfl (fun ls hl => ?_)
        refine lv_iload hx hb dL_ways_108 (lv_at hl 0 rfl) ?_
        refine lv_iload hx hb dL_ways_110 (lv_at hl 5 rfl) ?_
        refine lv_aload_n hx hb dL_ways_112 rfl (lv_at hl 1 rfl) ?_
        refine lv_bipush (v := 9) hx hb dL_ways_113 (by decide) ?_
        obtain ⟨x10, h11, h⟩ := bE h
        refine x_RV (As := [.int (9 : Int32)]) (rest := [.int a4, .int (v8 + v9)]) hF (c_X3_count l D cI cZ cT G A w sl o a t hs hst ta ca hh pd sg nm pp (9 : Int32) x10 h11) (cwV 1 hts (gqV mw_304 mw_305 mw_306 mw_51 mw_283) rfl rfl rfl hd_X3_count ⟨Nat.le_of_ble_eq_true rfl, Nat.le_of_ble_eq_true rfl⟩) hK hP q_E_bl (q_E_go hE hS (fun _ h9 => h9)) [0, 1, 2, 3, 4, 5, 6, 7, 8, 9, 10, 11, 12, 13, 14, 15, 16, 17, 18, 19, 20, 21] rfl rfl rfl rfl hl.1 rfl (Nat.le_of_ble_eq_true rfl) dL_ways_115 ⟨Nat.zero_le _, Nat.zero_le _⟩ ?_
        refine lv_iload_n hx hb dL_ways_118 rfl (lv_at hl 4 rfl) ?_
        refine lv_imul hx hb dL_ways_119 ?_
        refine x_j (V := Int32) (nL := 14) (fun v12 => [(0, .ref w), (1, .int a1), (2, .int a2), (5, .int a5)]) 128 (fun v12 => [.int v12, .int (v8 + v9)]) h (fun v12 h ls hl => ?_) (fun v12 h hj => ?_)
        · refine lv_iadd hx hb dL_ways_128 ?_
          refine lv_istore (lv' := [(9, .int ((v8 + v9) + v12)), (0, .ref w), (1, .int a1), (2, .int a2), (5, .int a5)]) hx hb dL_ways_129 hl (by decide) rfl (fun ls hl => ?_)
          refine lv_iload hx hb dL_ways_131 (lv_at hl 0 rfl) ?_
          refine lv_aload_n hx hb dL_ways_133 rfl (lv_at hl 1 rfl) ?_
          refine lv_iload_n hx hb dL_ways_134 rfl (lv_at hl 2 rfl) ?_
          refine lv_iconst (v := 3) hx hb dL_ways_135 (by decide) ?_
          obtain ⟨x13, h14, h⟩ := bE h
          refine x_RV (As := [.int a1, .int (3 : Int32)]) (rest := [.int ((v8 + v9) + v12)]) hF (c_X3_of l D cI cZ cT G A w sl o a t hs hst ta ca hh pd sg nm pp a1 (3 : Int32) x13 h14) (cwV 2 hts (gqV mw_341 mw_342 mw_343 mw_51 mw_268) rfl rfl rfl hd_X3_of ⟨Nat.le_of_ble_eq_true rfl, Nat.le_of_ble_eq_true rfl⟩) hK hP q_E_bl (q_E_go hE hS (fun _ h9 => h9)) [0, 1, 2, 3, 4, 5, 6, 7, 8, 9, 10, 11, 12, 13, 14, 15, 16, 17, 18, 19, 20, 21] rfl rfl rfl rfl hl.1 rfl (Nat.le_of_ble_eq_true rfl) dL_ways_136 ⟨Nat.zero_le _, Nat.zero_le _⟩ ?_
          refine lv_aload_n hx hb dL_ways_139 rfl (lv_at hl 1 rfl) ?_
          refine lv_iload_n hx hb dL_ways_140 rfl (lv_at hl 3 rfl) ?_
          refine lv_iconst (v := 3) hx hb dL_ways_141 (by decide) ?_
          obtain ⟨x15, h16, h⟩ := bE h
          refine x_RV (As := [.int a2, .int (3 : Int32)]) (rest := [.int x13, .int ((v8 + v9) + v12)]) hF (c_X3_of l D cI cZ cT G A w sl o a t hs hst ta ca hh pd sg nm pp a2 (3 : Int32) x15 h16) (cwV 2 hts (gqV mw_341 mw_342 mw_343 mw_51 mw_268) rfl rfl rfl hd_X3_of ⟨Nat.le_of_ble_eq_true rfl, Nat.le_of_ble_eq_true rfl⟩) hK hP q_E_bl (q_E_go hE hS (fun _ h9 => h9)) [0, 1, 2, 3, 4, 5, 6, 7, 8, 9, 10, 11, 12, 13, 14, 15, 16, 17, 18, 19, 20, 21] rfl rfl rfl rfl hl.1 rfl (Nat.le_of_ble_eq_true rfl) dL_ways_142 ⟨Nat.zero_le _, Nat.zero_le _⟩ ?_
          refine lv_iadd hx hb dL_ways_145 ?_
          refine x_j (V := Int32) (nL := 14) (fun v17 => [(0, .ref w), (1, .int a1), (2, .int a2), (5, .int a5)]) 155 (fun v17 => [.int v17, .int ((v8 + v9) + v12)]) h (fun v17 h ls hl => ?_) (fun v17 h hj => ?_)
          · refine lv_iadd hx hb dL_ways_155 ?_
            refine lv_istore (lv' := [(9, .int (((v8 + v9) + v12) + v17)), (0, .ref w), (1, .int a1), (2, .int a2), (5, .int a5)]) hx hb dL_ways_156 hl (by decide) rfl (fun ls hl => ?_)
            refine lv_iconst (v := 0) hx hb dL_ways_158 (by decide) ?_
            refine lv_istore (lv' := [(10, .int (0 : Int32)), (9, .int (((v8 + v9) + v12) + v17)), (0, .ref w), (1, .int a1), (2, .int a2), (5, .int a5)]) hx hb dL_ways_159 hl (by decide) rfl (fun ls hl => ?_)
            refine lv_iconst (v := 0) hx hb dL_ways_161 (by decide) ?_
            refine lv_istore (lv' := [(11, .int (0 : Int32)), (10, .int (0 : Int32)), (9, .int (((v8 + v9) + v12) + v17)), (0, .ref w), (1, .int a1), (2, .int a2), (5, .int a5)]) hx hb dL_ways_162 hl (by decide) rfl (fun ls hl => ?_)
            obtain ⟨v56, h57, h⟩ := bE h
            refine k_L_ways_L164 (v := v56) w sl o a t hs hst ta ca hh pd sg nm pp a1 a2 a5 (((v8 + v9) + v12) + v17) hE C0 hK hP (fun ls hl => ?_) 2000 (0 : Int32) (0 : Int32) _ (lv_sub hl [3, 4, 5, 6, 2, 1, 0] rfl) h57
            refine lv_iload hx hb dL_ways_304 (lv_at hl 0 rfl) ?_
            refine lv_iload hx hb dL_ways_306 (lv_at hl 1 rfl) ?_
            refine lv_if_eq (tgt := 316) hx hb dL_ways_308 (by decide) (fun c58 => ?_) (fun c58 => ?_)
            · have h := xt c58 h
              refine lv_iconst (v := 0) hx hb dL_ways_316 (by decide) ?_
              refine lv_iadd hx hb dL_ways_317 ?_
              cases h
              exact x_retR C0 rfl dL_ways_318
            · have h := xf c58 h
              refine lv_bipush (v := 16) hx hb dL_ways_311 (by decide) ?_
              refine lv_goto (tgt := 317) hx hb dL_ways_313 (by decide) ?_
              refine lv_iadd hx hb dL_ways_317 ?_
              cases h
              exact x_retR C0 rfl dL_ways_318
          · refine lv_if_le (tgt := 154) hx hb dL_ways_146 (by decide) (fun c59 => ?_) (fun c59 => ?_)
            · have h := xt c59 h
              refine lv_iconst (v := 0) hx hb dL_ways_154 (by decide) ?_
              cases h
              exact hj _ (lv_sub hl [1, 2, 3, 4] rfl)
            · have h := xf c59 h
              refine lv_bipush (v := 8) hx hb dL_ways_149 (by decide) ?_
              refine lv_goto (tgt := 155) hx hb dL_ways_151 (by decide) ?_
              cases h
              exact hj _ (lv_sub hl [1, 2, 3, 4] rfl)
        · refine lv_icmp_lt (tgt := 127) hx hb dL_ways_120 (by decide) (fun c60 => ?_) (fun c60 => ?_)
          · have h := xt c60 h
            refine lv_iconst (v := 0) hx hb dL_ways_127 (by decide) ?_
            cases h
            exact hj _ (lv_sub hl [1, 2, 3, 6] rfl)
          · have h := xf c60 h
            refine lv_iconst (v := 4) hx hb dL_ways_123 (by decide) ?_
            refine lv_goto (tgt := 128) hx hb dL_ways_124 (by decide) ?_
            cases h
            exact hj _ (lv_sub hl [1, 2, 3, 6] rfl)
      · refine lv_if_eq (tgt := 104) hx hb dL_ways_97 (by decide) (fun c61 => ?_) (fun c61 => ?_)
        · have h := xt c61 h
          refine lv_iconst (v := 0) hx hb dL_ways_104 (by decide) ?_
          cases h
          exact hj _ (lv_sub hl [1, 2, 3, 4, 5, 6] rfl)
        · have h := xf c61 h
          refine lv_iconst (v := 2) hx hb dL_ways_100 (by decide) ?_
          refine lv_goto (tgt := 105) hx hb dL_ways_101 (by decide) ?_
          cases h
          exact hj _ (lv_sub hl [1, 2, 3, 4, 5, 6] rfl)
    · refine lv_icmp_ge (tgt := 90) hx hb dL_ways_83 (by decide) (fun c62 => ?_) (fun c62 => ?_)
      · have h := xt c62 h
        refine lv_iconst (v := 0) hx hb dL_ways_90 (by decide) ?_
        cases h
        exact hj _ (lv_sub hl [1, 2, 3, 4, 5, 6, 0] rfl)
      · have h := xf c62 h
        refine lv_iconst (v := 1) hx hb dL_ways_86 (by decide) ?_
        refine lv_goto (tgt := 91) hx hb dL_ways_87 (by decide) ?_
        cases h
        exact hj _ (lv_sub hl [1, 2, 3, 4, 5, 6, 0] rfl)
  · refine lv_if_lt (tgt := 70) hx hb dL_ways_18 (by decide) (fun c63 => ?_) (fun c63 => ?_)
    · have h := xt c63 h
      refine lv_iconst (v := 0) hx hb dL_ways_70 (by decide) ?_
      cases h
      exact hj _ (lv_sub hl [2, 3, 4, 5, 6, 7] rfl)
    · have h := xf c63 h
      refine lv_iload hx hb dL_ways_21 (lv_at hl 0 rfl) ?_
      refine lv_if_lt (tgt := 70) hx hb dL_ways_23 (by decide) (fun c64 => ?_) (fun c64 => ?_)
      · have h := xt c64 h
        refine lv_iconst (v := 0) hx hb dL_ways_70 (by decide) ?_
        cases h
        exact hj _ (lv_sub hl [2, 3, 4, 5, 6, 7] rfl)
      · have h := xf c64 h
        refine lv_iload hx hb dL_ways_26 (lv_at hl 1 rfl) ?_
        refine lv_iload hx hb dL_ways_28 (lv_at hl 0 rfl) ?_
        refine lv_icmp_eq (tgt := 70) hx hb dL_ways_30 (by decide) (fun c65 => ?_) (fun c65 => ?_)
        · have h := xt c65 h
          refine lv_iconst (v := 0) hx hb dL_ways_70 (by decide) ?_
          cases h
          exact hj _ (lv_sub hl [2, 3, 4, 5, 6, 7] rfl)
        · have h := xf c65 h
          refine lv_iload hx hb dL_ways_33 (lv_at hl 1 rfl) ?_
          refine lv_iload_n hx hb dL_ways_35 rfl (lv_at hl 4 rfl) ?_
          refine lv_icmp_eq (tgt := 70) hx hb dL_ways_36 (by decide) (fun c66 => ?_) (fun c66 => ?_)
          · have h := xt c66 h
            refine lv_iconst (v := 0) hx hb dL_ways_70 (by decide) ?_
            cases h
            exact hj _ (lv_sub hl [2, 3, 4, 5, 6, 7] rfl)
          · have h := xf c66 h
            refine lv_iload hx hb dL_ways_39 (lv_at hl 0 rfl) ?_
            refine lv_iload_n hx hb dL_ways_41 rfl (lv_at hl 3 rfl) ?_
            refine lv_icmp_eq (tgt := 70) hx hb dL_ways_42 (by decide) (fun c67 => ?_) (fun c67 => ?_)
            · have h := xt c67 h
              refine lv_iconst (v := 0) hx hb dL_ways_70 (by decide) ?_
              cases h
              exact hj _ (lv_sub hl [2, 3, 4, 5, 6, 7] rfl)
            · have h := xf c67 h
              refine lv_aload_n hx hb dL_ways_45 rfl (lv_at hl 2 rfl) ?_
              refine lv_iload hx hb dL_ways_46 (lv_at hl 1 rfl) ?_
              refine lv_iconst (v := 1) hx hb dL_ways_48 (by decide) ?_
              obtain ⟨x68, h69, h⟩ := bE h
              refine x_RV (As := [.int x1, .int (1 : Int32)]) (rest := []) hF (c_X3_of l D cI cZ cT G A w sl o a t hs hst ta ca hh pd sg nm pp x1 (1 : Int32) x68 h69) (cwV 2 hts (gqV mw_341 mw_342 mw_343 mw_51 mw_268) rfl rfl rfl hd_X3_of ⟨Nat.le_of_ble_eq_true rfl, Nat.le_of_ble_eq_true rfl⟩) hK hP q_E_bl (q_E_go hE hS (fun _ h9 => h9)) [0, 1, 2, 3, 4, 5, 6, 7, 8, 9, 10, 11, 12, 13, 14, 15, 16, 17, 18, 19, 20, 21] rfl rfl rfl rfl hl.1 rfl (Nat.le_of_ble_eq_true rfl) dL_ways_49 ⟨Nat.zero_le _, Nat.zero_le _⟩ ?_
              refine lv_aload_n hx hb dL_ways_52 rfl (lv_at hl 2 rfl) ?_
              refine lv_iload hx hb dL_ways_53 (lv_at hl 0 rfl) ?_
              refine lv_iconst (v := 1) hx hb dL_ways_55 (by decide) ?_
              obtain ⟨x70, h71, h⟩ := bE h
              refine x_RV (As := [.int x3, .int (1 : Int32)]) (rest := [.int x68]) hF (c_X3_of l D cI cZ cT G A w sl o a t hs hst ta ca hh pd sg nm pp x3 (1 : Int32) x70 h71) (cwV 2 hts (gqV mw_341 mw_342 mw_343 mw_51 mw_268) rfl rfl rfl hd_X3_of ⟨Nat.le_of_ble_eq_true rfl, Nat.le_of_ble_eq_true rfl⟩) hK hP q_E_bl (q_E_go hE hS (fun _ h9 => h9)) [0, 1, 2, 3, 4, 5, 6, 7, 8, 9, 10, 11, 12, 13, 14, 15, 16, 17, 18, 19, 20, 21] rfl rfl rfl rfl hl.1 rfl (Nat.le_of_ble_eq_true rfl) dL_ways_56 ⟨Nat.zero_le _, Nat.zero_le _⟩ ?_
              refine lv_iadd hx hb dL_ways_59 ?_
              refine lv_iconst (v := 2) hx hb dL_ways_60 (by decide) ?_
              refine lv_iload_n hx hb dL_ways_61 rfl (lv_at hl 5 rfl) ?_
              refine lv_imul hx hb dL_ways_62 ?_
              refine lv_icmp_lt (tgt := 70) hx hb dL_ways_63 (by decide) (fun c72 => ?_) (fun c72 => ?_)
              · have h := xt c72 h
                refine lv_iconst (v := 0) hx hb dL_ways_70 (by decide) ?_
                cases h
                exact hj _ (lv_sub hl [2, 3, 4, 5, 6, 7] rfl)
              · have h := xf c72 h
                refine lv_iconst (v := 1) hx hb dL_ways_66 (by decide) ?_
                refine lv_goto (tgt := 71) hx hb dL_ways_67 (by decide) ?_
                cases h
                exact hj _ (lv_sub hl [2, 3, 4, 5, 6, 7] rfl)

end G_LC

section G_LG
variable {p : Program} {l : Launch} {e : Env} {s : State} {m : MethodId} {args : Array Value} {below : List Frame} {meth : Method} {c : Code} {D : va_G} {cI cZ cT : ClassId}

/-! QuarrelWaysLaw.isInsultSo (LQuarrelWays;III)Z -/
abbrev rm_L_isInsultSo : Room := { frames := 7, cells := 0, slots := 0, locals := 158 }
theorem hd_L_isInsultSo : yL_isInsultSo.cls = RL ∧ yL_isInsultSo.cls ≠ "java/lang/invoke/MethodHandle" ∧ yL_isInsultSo.cls ≠ "java/lang/invoke/VarHandle" ∧ (parseMethodDescriptor yL_isInsultSo.desc).map (fun d => d.parameters.length) = some 4 := by decide +kernel
set_option maxHeartbeats 4000000 in
set_option maxRecDepth 100000 in
theorem c_L_isInsultSo (l : Launch) (D : va_G) (cI cZ cT : ClassId) (G : q_G) (sz : Nat) (w sl : Nat) (o a : Nat) (t : TT) (hs hst : Nat) (ta ca : Nat → Nat) (hh : HH) (pd sg nm : Nat) (pp : PP) (a1 : Int32) (a2 : Int32) (a3 : Int32) (r : Int32 × TT × HH) (h : f_L_isInsultSo t hh pp a1 a2 a3 = some r) : Met l yL_isInsultSo (wq yL_isInsultSo cL_isInsultSo 8 (some .boolean)) rm_L_isInsultSo (q_M D (q_tys cI cZ cT) sz ((wX w o hs pd sl) ++ (wT cI o a t) ++ (wH cI cT hs hst ta ca hh) ++ (wPd cI pd sg nm pp)) (q_E G (va_A ((wX w o hs pd sl) ++ (wT cI o a t) ++ (wH cI cT hs hst ta ca hh) ++ (wPd cI pd sg nm pp)) sz)) [.ref w, .int a1, .int a2, .int a3]) (va_Qi (fun r' _ => r' = r.1) (q_B D ((wX w o hs pd sl) ++ (wT cI o a t) ++ (wH cI cT hs hst ta ca hh) ++ (wPd cI pd sg nm pp)) sz ((wX w o hs pd sl) ++ (wT cI o a r.2.1) ++ (wH cI cT hs hst ta ca r.2.2) ++ (wPd cI pd sg nm pp))) (va_A ((wX w o hs pd sl) ++ (wT cI o a t) ++ (wH cI cT hs hst ta ca hh) ++ (wPd cI pd sg nm pp)) sz)) 0 0 (va_A ((wX w o hs pd sl) ++ (wT cI o a t) ++ (wH cI cT hs hst ta ca hh) ++ (wPd cI pd sg nm pp)) sz) := by
  refine q_MI (cc := cL_isInsultSo) (maxL := 8) (ret := (some .boolean)) (E := fun sz => (q_E G (va_A ((wX w o hs pd sl) ++ (wT cI o a t) ++ (wH cI cT hs hst ta ca hh) ++ (wPd cI pd sg nm pp)) sz))) (Qc := fun sz => (va_Qi (fun r' _ => r' = r.1) (q_B D ((wX w o hs pd sl) ++ (wT cI o a t) ++ (wH cI cT hs hst ta ca hh) ++ (wPd cI pd sg nm pp)) sz ((wX w o hs pd sl) ++ (wT cI o a r.2.1) ++ (wH cI cT hs hst ta ca r.2.2) ++ (wPd cI pd sg nm pp))) (va_A ((wX w o hs pd sl) ++ (wT cI o a t) ++ (wH cI cT hs hst ta ca hh) ++ (wPd cI pd sg nm pp)) sz))) (free := fun sz => va_A ((wX w o hs pd sl) ++ (wT cI o a t) ++ (wH cI cT hs hst ta ca hh) ++ (wPd cI pd sg nm pp)) sz) (plainFor_of_name (by decide)) (Nat.le_of_ble_eq_true rfl) (fun p e s m below meth c C0 hname hP hK hD hE ls hl => ?_)
  have hA : ∀ q, s.heap.size ≤ q → (va_A ((wX w o hs pd sl) ++ (wT cI o a t) ++ (wH cI cT hs hst ta ca hh) ++ (wPd cI pd sg nm pp)) s.heap.size) q := fun _ => Or.inr
  have hS : va_S (va_A ((wX w o hs pd sl) ++ (wT cI o a t) ++ (wH cI cT hs hst ta ca hh) ++ (wPd cI pd sg nm pp)) s.heap.size) s.heap s.heap [] := va_S.rf
  have hE : q_E G (va_A ((wX w o hs pd sl) ++ (wT cI o a t) ++ (wH cI cT hs hst ta ca hh) ++ (wPd cI pd sg nm pp)) s.heap.size) s := hE
  have hl : lv_has ls 8 [(0, .ref w), (1, .int a1), (2, .int a2), (3, .int a3)] := hl
  obtain ⟨hx, hb, hr, hml, hown, hts, hlocks⟩ := id C0
  have hF : CallFix p m c cL_isInsultSo 8 s _ BW RL := ⟨hx, hb, hml, hown, hts⟩
  rw [f_L_isInsultSo] at h
  refine lv_aload_n hx hb dL_isInsultSo_0 rfl (lv_at hl 0 rfl) ?_
  refine lv_iload_n hx hb dL_isInsultSo_1 rfl (lv_at hl 1 rfl) ?_
  refine lv_iload_n hx hb dL_isInsultSo_2 rfl (lv_at hl 2 rfl) ?_
  refine lv_iload_n hx hb dL_isInsultSo_3 rfl (lv_at hl 3 rfl) ?_
  obtain ⟨x1, h2, h⟩ := bE h
  refine x_RV (As := [.int a1, .int a2, .int a3]) (rest := []) hF (c_X3_ifInsulted l D cI cZ cT G (va_A ((wX w o hs pd sl) ++ (wT cI o a t) ++ (wH cI cT hs hst ta ca hh) ++ (wPd cI pd sg nm pp)) s.heap.size) w sl o a t hs hst ta ca hh pd sg nm pp a1 a2 a3 x1 h2) (cwV 3 hts (gqV mw_382 mw_383 mw_384 mw_51 mw_293) rfl rfl rfl hd_X3_ifInsulted ⟨Nat.le_of_ble_eq_true rfl, Nat.le_of_ble_eq_true rfl⟩) hK hP q_E_bl (q_E_go hE hS (fun _ h9 => h9)) [0, 1, 2, 3, 4, 5, 6, 7, 8, 9, 10, 11, 12, 13, 14, 15, 16, 17, 18, 19, 20, 21] rfl rfl rfl rfl hl.1 rfl (Nat.le_of_ble_eq_true rfl) dL_isInsultSo_4 ⟨Nat.zero_le _, Nat.zero_le _⟩ ?_
  refine lv_istore (lv' := [(4, .int x1), (0, .ref w), (1, .int a1), (2, .int a2), (3, .int a3)]) hx hb dL_isInsultSo_7 hl (by decide) rfl (fun ls hl => ?_)
  refine lv_aload_n hx hb dL_isInsultSo_9 rfl (lv_at hl 1 rfl) ?_
  refine lv_iload_n hx hb dL_isInsultSo_10 rfl (lv_at hl 2 rfl) ?_
  refine lv_iload_n hx hb dL_isInsultSo_11 rfl (lv_at hl 3 rfl) ?_
  refine lv_iload_n hx hb dL_isInsultSo_12 rfl (lv_at hl 4 rfl) ?_
  obtain ⟨x3, h4, h⟩ := bE h
  refine x_MVp (As := [.int a1, .int a2, .int a3]) (rest := []) (wr := []) (W1 := (wX w o hs pd sl) ++ (wT cI o a x3.2.1) ++ (wH cI cT hs hst ta ca x3.2.2) ++ (wPd cI pd sg nm pp)) hF (c_X3_insult l D cI cZ cT G _ w sl o a t hs hst ta ca hh pd sg nm pp a1 a2 a3 x3 h4) (cwV 3 hts (gqV mw_310 mw_311 mw_312 mw_51 mw_245) rfl rfl rfl hd_X3_insult ⟨Nat.le_of_ble_eq_true rfl, Nat.le_of_ble_eq_true rfl⟩) hK hP hD hS hA q_E_bl (q_E_go hE hS (q_freep (p4_A (wX w o hs pd sl) (wT cI o a t) (wH cI cT hs hst ta ca hh) (wPd cI pd sg nm pp)) hD hS hA)) (p4_A (wX w o hs pd sl) (wT cI o a t) (wH cI cT hs hst ta ca hh) (wPd cI pd sg nm pp)) (p4_A (wX w o hs pd sl) (wT cI o a x3.2.1) (wH cI cT hs hst ta ca x3.2.2) (wPd cI pd sg nm pp)).symm rfl rfl rfl hl.1 rfl (Nat.le_of_ble_eq_true rfl) dL_isInsultSo_13 ⟨Nat.zero_le _, Nat.zero_le _⟩ (fun H locs hP hD hS => ?_)
  refine lv_istore (lv' := [(5, .int x3.1), (4, .int x1), (0, .ref w), (1, .int a1), (2, .int a2), (3, .int a3)]) hx hb dL_isInsultSo_16 hl (by decide) rfl (fun ls hl => ?_)
  refine lv_iload hx hb dL_isInsultSo_18 (lv_at hl 0 rfl) ?_
  refine lv_if_ge (tgt := 48) hx hb dL_isInsultSo_20 (by decide) (fun c5 => ?_) (fun c5 => ?_)
  · have h := xt c5 h
    refine lv_aload_n hx hb dL_isInsultSo_48 rfl (lv_at hl 2 rfl) ?_
    refine lv_iload hx hb dL_isInsultSo_49 (lv_at hl 0 rfl) ?_
    refine lv_bipush (v := 7) hx hb dL_isInsultSo_51 (by decide) ?_
    obtain ⟨x6, h7, h⟩ := bE h
    refine x_RV (As := [.int x3.1, .int (7 : Int32)]) (rest := []) hF (c_X3_quarrel l D cI cZ cT G (va_A ((wX w o hs pd sl) ++ (wT cI o a t) ++ (wH cI cT hs hst ta ca hh) ++ (wPd cI pd sg nm pp)) s.heap.size) w sl o a x3.2.1 hs hst ta ca x3.2.2 pd sg nm pp x3.1 (7 : Int32) x6 h7) (cwV 2 hts (gqV mw_347 mw_348 mw_349 mw_51 mw_271) rfl rfl rfl hd_X3_quarrel ⟨Nat.le_of_ble_eq_true rfl, Nat.le_of_ble_eq_true rfl⟩) hK hP q_E_bl (q_E_go hE hS (fun _ h9 => h9)) [0, 1, 2, 3, 4, 5, 6, 7, 8, 9, 10, 11, 12, 13, 14, 15, 16, 17, 18, 19, 20, 21] rfl rfl rfl rfl hl.1 rfl (Nat.le_of_ble_eq_true rfl) dL_isInsultSo_53 ⟨Nat.zero_le _, Nat.zero_le _⟩ ?_
    refine lv_iload hx hb dL_isInsultSo_56 (lv_at hl 1 rfl) ?_
    refine x_j (V := Int32) (nL := 8) (fun v8 => [(0, .ref w), (5, .int x3.1)]) 96 (fun v8 => [.int v8]) h (fun v8 h ls hl => ?_) (fun v8 h hj => ?_)
    · refine lv_istore (lv' := [(6, .int v8), (0, .ref w), (5, .int x3.1)]) hx hb dL_isInsultSo_96 hl (by decide) rfl (fun ls hl => ?_)
      refine lv_aload_n hx hb dL_isInsultSo_98 rfl (lv_at hl 1 rfl) ?_
      obtain ⟨x9, h10, h⟩ := bE h
      refine x_MVp (As := []) (rest := []) (wr := []) (W1 := (wX w o hs pd sl) ++ (wT cI o a x9.2.1) ++ (wH cI cT hs hst ta ca x9.2.2) ++ (wPd cI pd sg nm pp)) hF (c_X3_undo l D cI cZ cT G _ w sl o a x3.2.1 hs hst ta ca x3.2.2 pd sg nm pp  x9 h10) (cwV 0 hts (gqV mw_378 mw_379 mw_380 mw_51 mw_297) rfl rfl rfl hd_X3_undo ⟨Nat.le_of_ble_eq_true rfl, Nat.le_of_ble_eq_true rfl⟩) hK hP hD hS hA q_E_bl (q_E_go hE hS (q_freep (p4_A (wX w o hs pd sl) (wT cI o a x3.2.1) (wH cI cT hs hst ta ca x3.2.2) (wPd cI pd sg nm pp)) hD hS hA)) (p4_A (wX w o hs pd sl) (wT cI o a x3.2.1) (wH cI cT hs hst ta ca x3.2.2) (wPd cI pd sg nm pp)) (p4_A (wX w o hs pd sl) (wT cI o a x9.2.1) (wH cI cT hs hst ta ca x9.2.2) (wPd cI pd sg nm pp)).symm rfl rfl rfl hl.1 rfl (Nat.le_of_ble_eq_true rfl) dL_isInsultSo_99 ⟨Nat.zero_le _, Nat.zero_le _⟩ (fun H locs hP hD hS => ?_)
      refine lv_istore (lv' := [(7, .int x9.1), (6, .int v8), (0, .ref w), (5, .int x3.1)]) hx hb dL_isInsultSo_102 hl (by decide) rfl (fun ls hl => ?_)
      refine lv_iload hx hb dL_isInsultSo_104 (lv_at hl 1 rfl) ?_
      refine lv_if_eq (tgt := 128) hx hb dL_isInsultSo_106 (by decide) (fun c11 => ?_) (fun c11 => ?_)
      · have h := xt c11 h
        refine lv_iconst (v := 0) hx hb dL_isInsultSo_128 (by decide) ?_
        cases h
        exact x_retM C0 narrow_b0 hP hD hS dL_isInsultSo_129
      · have h := xf c11 h
        refine lv_iload hx hb dL_isInsultSo_109 (lv_at hl 0 rfl) ?_
        refine lv_if_lt (tgt := 128) hx hb dL_isInsultSo_111 (by decide) (fun c12 => ?_) (fun c12 => ?_)
        · have h := xt c12 h
          refine lv_iconst (v := 0) hx hb dL_isInsultSo_128 (by decide) ?_
          cases h
          exact x_retM C0 narrow_b0 hP hD hS dL_isInsultSo_129
        · have h := xf c12 h
          refine lv_aload_n hx hb dL_isInsultSo_114 rfl (lv_at hl 2 rfl) ?_
          refine lv_iconst (v := 2) hx hb dL_isInsultSo_115 (by decide) ?_
          obtain ⟨x13, h14, h⟩ := bE h
          refine x_RV (As := [.int (2 : Int32)]) (rest := []) hF (c_X3_count l D cI cZ cT G (va_A ((wX w o hs pd sl) ++ (wT cI o a t) ++ (wH cI cT hs hst ta ca hh) ++ (wPd cI pd sg nm pp)) s.heap.size) w sl o a x9.2.1 hs hst ta ca x9.2.2 pd sg nm pp (2 : Int32) x13 h14) (cwV 1 hts (gqV mw_304 mw_305 mw_306 mw_51 mw_283) rfl rfl rfl hd_X3_count ⟨Nat.le_of_ble_eq_true rfl, Nat.le_of_ble_eq_true rfl⟩) hK hP q_E_bl (q_E_go hE hS (fun _ h9 => h9)) [0, 1, 2, 3, 4, 5, 6, 7, 8, 9, 10, 11, 12, 13, 14, 15, 16, 17, 18, 19, 20, 21] rfl rfl rfl rfl hl.1 rfl (Nat.le_of_ble_eq_true rfl) dL_isInsultSo_116 ⟨Nat.zero_le _, Nat.zero_le _⟩ ?_
          refine lv_iload hx hb dL_isInsultSo_119 (lv_at hl 3 rfl) ?_
          refine lv_icmp_ne (tgt := 128) hx hb dL_isInsultSo_121 (by decide) (fun c15 => ?_) (fun c15 => ?_)
          · have h := xf c15 h
            refine lv_iconst (v := 0) hx hb dL_isInsultSo_128 (by decide) ?_
            cases h
            exact x_retM C0 narrow_b0 hP hD hS dL_isInsultSo_129
          · have h := xt c15 h
            refine lv_iconst (v := 1) hx hb dL_isInsultSo_124 (by decide) ?_
            refine lv_goto (tgt := 129) hx hb dL_isInsultSo_125 (by decide) ?_
            cases h
            exact x_retM C0 narrow_b1 hP hD hS dL_isInsultSo_129
    · refine lv_icmp_ne (tgt := 95) hx hb dL_isInsultSo_58 (by decide) (fun c16 => ?_) (fun c16 => ?_)
      · have h := xf c16 h
        refine lv_iconst (v := 0) hx hb dL_isInsultSo_95 (by decide) ?_
        cases h
        exact hj _ (lv_sub hl [2, 0] rfl)
      · have h := xt c16 h
        refine lv_aload_n hx hb dL_isInsultSo_61 rfl (lv_at hl 2 rfl) ?_
        refine lv_iconst (v := 0) hx hb dL_isInsultSo_62 (by decide) ?_
        refine lv_iconst (v := 0) hx hb dL_isInsultSo_63 (by decide) ?_
        obtain ⟨x17, h18, h⟩ := bE h
        refine x_RV (As := [.int (0 : Int32), .int (0 : Int32)]) (rest := []) hF (c_X3_record l D cI cZ cT G (va_A ((wX w o hs pd sl) ++ (wT cI o a t) ++ (wH cI cT hs hst ta ca hh) ++ (wPd cI pd sg nm pp)) s.heap.size) w sl o a x3.2.1 hs hst ta ca x3.2.2 pd sg nm pp (0 : Int32) (0 : Int32) x17 h18) (cwV 2 hts (gqV mw_344 mw_345 mw_346 mw_51 mw_272) rfl rfl rfl hd_X3_record ⟨Nat.le_of_ble_eq_true rfl, Nat.le_of_ble_eq_true rfl⟩) hK hP q_E_bl (q_E_go hE hS (fun _ h9 => h9)) [0, 1, 2, 3, 4, 5, 6, 7, 8, 9, 10, 11, 12, 13, 14, 15, 16, 17, 18, 19, 20, 21] rfl rfl rfl rfl hl.1 rfl (Nat.le_of_ble_eq_true rfl) dL_isInsultSo_64 ⟨Nat.zero_le _, Nat.zero_le _⟩ ?_
        refine lv_if_ne (tgt := 95) hx hb dL_isInsultSo_67 (by decide) (fun c19 => ?_) (fun c19 => ?_)
        · have h := xf c19 h
          refine lv_iconst (v := 0) hx hb dL_isInsultSo_95 (by decide) ?_
          cases h
          exact hj _ (lv_sub hl [2, 0] rfl)
        · have h := xt c19 h
          refine lv_aload_n hx hb dL_isInsultSo_70 rfl (lv_at hl 2 rfl) ?_
          refine lv_iconst (v := 0) hx hb dL_isInsultSo_71 (by decide) ?_
          refine lv_iconst (v := 2) hx hb dL_isInsultSo_72 (by decide) ?_
          obtain ⟨x20, h21, h⟩ := bE h
          refine x_RV (As := [.int (0 : Int32), .int (2 : Int32)]) (rest := []) hF (c_X3_record l D cI cZ cT G (va_A ((wX w o hs pd sl) ++ (wT cI o a t) ++ (wH cI cT hs hst ta ca hh) ++ (wPd cI pd sg nm pp)) s.heap.size) w sl o a x3.2.1 hs hst ta ca x3.2.2 pd sg nm pp (0 : Int32) (2 : Int32) x20 h21) (cwV 2 hts (gqV mw_344 mw_345 mw_346 mw_51 mw_272) rfl rfl rfl hd_X3_record ⟨Nat.le_of_ble_eq_true rfl, Nat.le_of_ble_eq_true rfl⟩) hK hP q_E_bl (q_E_go hE hS (fun _ h9 => h9)) [0, 1, 2, 3, 4, 5, 6, 7, 8, 9, 10, 11, 12, 13, 14, 15, 16, 17, 18, 19, 20, 21] rfl rfl rfl rfl hl.1 rfl (Nat.le_of_ble_eq_true rfl) dL_isInsultSo_73 ⟨Nat.zero_le _, Nat.zero_le _⟩ ?_
          refine lv_iload hx hb dL_isInsultSo_76 (lv_at hl 0 rfl) ?_
          refine lv_icmp_ne (tgt := 95) hx hb dL_isInsultSo_78 (by decide) (fun c22 => ?_) (fun c22 => ?_)
          · have h := xf c22 h
            refine lv_iconst (v := 0) hx hb dL_isInsultSo_95 (by decide) ?_
            cases h
            exact hj _ (lv_sub hl [2, 0] rfl)
          · have h := xt c22 h
            refine lv_aload_n hx hb dL_isInsultSo_81 rfl (lv_at hl 2 rfl) ?_
            refine lv_iload hx hb dL_isInsultSo_82 (lv_at hl 0 rfl) ?_
            refine lv_iconst (v := 3) hx hb dL_isInsultSo_84 (by decide) ?_
            obtain ⟨x23, h24, h⟩ := bE h
            refine x_RV (As := [.int x3.1, .int (3 : Int32)]) (rest := []) hF (c_X3_quarrel l D cI cZ cT G (va_A ((wX w o hs pd sl) ++ (wT cI o a t) ++ (wH cI cT hs hst ta ca hh) ++ (wPd cI pd sg nm pp)) s.heap.size) w sl o a x3.2.1 hs hst ta ca x3.2.2 pd sg nm pp x3.1 (3 : Int32) x23 h24) (cwV 2 hts (gqV mw_347 mw_348 mw_349 mw_51 mw_271) rfl rfl rfl hd_X3_quarrel ⟨Nat.le_of_ble_eq_true rfl, Nat.le_of_ble_eq_true rfl⟩) hK hP q_E_bl (q_E_go hE hS (fun _ h9 => h9)) [0, 1, 2, 3, 4, 5, 6, 7, 8, 9, 10, 11, 12, 13, 14, 15, 16, 17, 18, 19, 20, 21] rfl rfl rfl rfl hl.1 rfl (Nat.le_of_ble_eq_true rfl) dL_isInsultSo_85 ⟨Nat.zero_le _, Nat.zero_le _⟩ ?_
            refine lv_if_ne (tgt := 95) hx hb dL_isInsultSo_88 (by decide) (fun c25 => ?_) (fun c25 => ?_)
            · have h := xf c25 h
              refine lv_iconst (v := 0) hx hb dL_isInsultSo_95 (by decide) ?_
              cases h
              exact hj _ (lv_sub hl [2, 0] rfl)
            · have h := xt c25 h
              refine lv_iconst (v := 1) hx hb dL_isInsultSo_91 (by decide) ?_
              refine lv_goto (tgt := 96) hx hb dL_isInsultSo_92 (by decide) ?_
              cases h
              exact hj _ (lv_sub hl [2, 0] rfl)
  · have h := xf c5 h
    refine lv_iload hx hb dL_isInsultSo_23 (lv_at hl 0 rfl) ?_
    refine lv_bipush (v := (-5)) hx hb dL_isInsultSo_25 (by decide) ?_
    refine lv_icmp_eq (tgt := 37) hx hb dL_isInsultSo_27 (by decide) (fun c26 => ?_) (fun c26 => ?_)
    · have h := xt c26 h
      refine lv_iload hx hb dL_isInsultSo_37 (lv_at hl 1 rfl) ?_
      refine lv_if_lt (tgt := 46) hx hb dL_isInsultSo_39 (by decide) (fun c27 => ?_) (fun c27 => ?_)
      · have h := xt c27 h
        refine lv_iconst (v := 0) hx hb dL_isInsultSo_46 (by decide) ?_
        cases h
        exact x_retM C0 narrow_b0 hP hD hS dL_isInsultSo_47
      · have h := xf c27 h
        refine lv_iconst (v := 1) hx hb dL_isInsultSo_42 (by decide) ?_
        refine lv_goto (tgt := 47) hx hb dL_isInsultSo_43 (by decide) ?_
        cases h
        exact x_retM C0 narrow_b1 hP hD hS dL_isInsultSo_47
    · have h := xf c26 h
      refine lv_iload hx hb dL_isInsultSo_30 (lv_at hl 0 rfl) ?_
      refine lv_bipush (v := (-4)) hx hb dL_isInsultSo_32 (by decide) ?_
      refine lv_icmp_ne (tgt := 46) hx hb dL_isInsultSo_34 (by decide) (fun c28 => ?_) (fun c28 => ?_)
      · have h := xf c28 h
        refine lv_iconst (v := 0) hx hb dL_isInsultSo_46 (by decide) ?_
        cases h
        exact x_retM C0 narrow_b0 hP hD hS dL_isInsultSo_47
      · have h := xt c28 h
        refine lv_iload hx hb dL_isInsultSo_37 (lv_at hl 1 rfl) ?_
        refine lv_if_lt (tgt := 46) hx hb dL_isInsultSo_39 (by decide) (fun c29 => ?_) (fun c29 => ?_)
        · have h := xt c29 h
          refine lv_iconst (v := 0) hx hb dL_isInsultSo_46 (by decide) ?_
          cases h
          exact x_retM C0 narrow_b0 hP hD hS dL_isInsultSo_47
        · have h := xf c29 h
          refine lv_iconst (v := 1) hx hb dL_isInsultSo_42 (by decide) ?_
          refine lv_goto (tgt := 47) hx hb dL_isInsultSo_43 (by decide) ?_
          cases h
          exact x_retM C0 narrow_b1 hP hD hS dL_isInsultSo_47

end G_LG

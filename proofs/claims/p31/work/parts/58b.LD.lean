section G_LD
variable {p : Program} {l : Launch} {e : Env} {s : State} {m : MethodId} {args : Array Value} {below : List Frame} {meth : Method} {c : Code} {D : va_G} {cI cZ cT : ClassId}

/-! QuarrelWaysLaw.areQuarrelsSo (LQuarrelWays;)Z -/
abbrev rm_L_areQuarrelsSo : Room := { frames := 8, cells := 0, slots := 0, locals := 191 }
theorem hd_L_areQuarrelsSo : yL_areQuarrelsSo.cls = RL ∧ yL_areQuarrelsSo.cls ≠ "java/lang/invoke/MethodHandle" ∧ yL_areQuarrelsSo.cls ≠ "java/lang/invoke/VarHandle" ∧ (parseMethodDescriptor yL_areQuarrelsSo.desc).map (fun d => d.parameters.length) = some 1 := by decide +kernel
set_option maxHeartbeats 4000000 in
set_option maxRecDepth 100000 in
theorem k_L_areQuarrelsSo_L15 {Q : State → Prop} {v : Int32 × Int32 × Int32 × Int32 × Int32} (w sl : Nat) (o a : Nat) (z1 : TT) (hs hst : Nat) (ta ca : Nat → Nat) (z2 : HH) (pd sg nm : Nat) (z3 : PP) {G : q_G} {A : Nat → Prop} (hE : q_E G A s) (C0 : q_At p s m args meth c cL_areQuarrelsSo 14 (some .boolean) RL) (hK : va_K D vwCl (q_tys cI cZ cT) s) (hP : va_P D vwCl ((wX w o hs pd sl) ++ (wT cI o a z1) ++ (wH cI cT hs hst ta ca z2) ++ (wPd cI pd sg nm z3)) s.heap) (hj : ∀ (ls : Array Slot), lv_has ls 14 [(0, .ref w), (1, .int v.1), (2, .int v.2.1), (3, .int v.2.2.1), (4, .int v.2.2.2.1), (5, .int v.2.2.2.2)] → W p l e rm_L_areQuarrelsSo s m args below meth c s.heap [] 0 0 Q (F0 m 500 ls [])) : ∀ (n : Nat) (y1 : Int32) (y2 : Int32) (y3 : Int32) (y4 : Int32) (y5 : Int32) (y6 : Int32) (ls : Array Slot), lv_has ls 14 [(0, .ref w), (1, .int y1), (2, .int y2), (3, .int y3), (4, .int y4), (5, .int y5), (6, .int y6)] → f_L_areQuarrelsSo_L15 z1 z2 z3 n y1 y2 y3 y4 y5 y6 = some v → W p l e rm_L_areQuarrelsSo s m args below meth c s.heap [] 0 0 (Q) (F0 m 15 ls []) := by
  obtain ⟨hx, hb, hr, hml, hown, hts, hlocks⟩ := id C0
  have hF : CallFix p m c cL_areQuarrelsSo 14 s args BW RL := ⟨hx, hb, hml, hown, hts⟩
  have hS : va_S A s.heap s.heap [] := va_S.rf
  intro n
  induction n with
  | zero =>
    intro y1 y2 y3 y4 y5 y6 ls hl h
    rw [f_L_areQuarrelsSo_L15] at h
    cases h
  | succ n ih =>
    intro y1 y2 y3 y4 y5 y6 ls hl h
    rw [f_L_areQuarrelsSo_L15] at h
    refine lv_iload hx hb dL_areQuarrelsSo_15 (lv_at hl 6 rfl) ?_
    refine lv_aload_n hx hb dL_areQuarrelsSo_17 rfl (lv_at hl 0 rfl) ?_
    refine lv_iconst (v := 2) hx hb dL_areQuarrelsSo_18 (by decide) ?_
    obtain ⟨x1, h2, h⟩ := bE h
    refine x_RV (As := [.int (2 : Int32)]) (rest := [.int y6]) hF (c_X3_count l D cI cZ cT G A w sl o a z1 hs hst ta ca z2 pd sg nm z3 (2 : Int32) x1 h2) (cwV 1 hts (gqV mw_304 mw_305 mw_306 mw_51 mw_283) rfl rfl rfl hd_X3_count ⟨Nat.le_of_ble_eq_true rfl, Nat.le_of_ble_eq_true rfl⟩) hK hP q_E_bl (q_E_go hE hS (fun _ h9 => h9)) [0, 1, 2, 3, 4, 5, 6, 7, 8, 9, 10, 11, 12, 13, 14, 15, 16, 17, 18, 19, 20, 21] rfl rfl rfl rfl hl.1 rfl (Nat.le_of_ble_eq_true rfl) dL_areQuarrelsSo_19 ⟨Nat.zero_le _, Nat.zero_le _⟩ ?_
    refine lv_icmp_ge (tgt := 500) hx hb dL_areQuarrelsSo_22 (by decide) (fun c3 => ?_) (fun c3 => ?_)
    · have h := xt c3 h
      cases h
      exact hj _ (lv_sub hl [0, 1, 2, 3, 4, 5] rfl)
    · have h := xf c3 h
      refine lv_aload_n hx hb dL_areQuarrelsSo_25 rfl (lv_at hl 0 rfl) ?_
      refine lv_iload hx hb dL_areQuarrelsSo_26 (lv_at hl 6 rfl) ?_
      refine lv_iconst (v := 4) hx hb dL_areQuarrelsSo_28 (by decide) ?_
      obtain ⟨x4, h5, h⟩ := bE h
      refine x_RV (As := [.int y6, .int (4 : Int32)]) (rest := []) hF (c_X3_quarrel l D cI cZ cT G A w sl o a z1 hs hst ta ca z2 pd sg nm z3 y6 (4 : Int32) x4 h5) (cwV 2 hts (gqV mw_347 mw_348 mw_349 mw_51 mw_271) rfl rfl rfl hd_X3_quarrel ⟨Nat.le_of_ble_eq_true rfl, Nat.le_of_ble_eq_true rfl⟩) hK hP q_E_bl (q_E_go hE hS (fun _ h9 => h9)) [0, 1, 2, 3, 4, 5, 6, 7, 8, 9, 10, 11, 12, 13, 14, 15, 16, 17, 18, 19, 20, 21] rfl rfl rfl rfl hl.1 rfl (Nat.le_of_ble_eq_true rfl) dL_areQuarrelsSo_29 ⟨Nat.zero_le _, Nat.zero_le _⟩ ?_
      refine lv_istore (lv' := [(7, .int x4), (0, .ref w), (1, .int y1), (2, .int y2), (3, .int y3), (4, .int y4), (5, .int y5), (6, .int y6)]) hx hb dL_areQuarrelsSo_32 hl (by decide) rfl (fun ls hl => ?_)
      refine lv_aload_n hx hb dL_areQuarrelsSo_34 rfl (lv_at hl 1 rfl) ?_
      refine lv_iload hx hb dL_areQuarrelsSo_35 (lv_at hl 7 rfl) ?_
      refine lv_bipush (v := 7) hx hb dL_areQuarrelsSo_37 (by decide) ?_
      obtain ⟨x6, h7, h⟩ := bE h
      refine x_RV (As := [.int y6, .int (7 : Int32)]) (rest := []) hF (c_X3_quarrel l D cI cZ cT G A w sl o a z1 hs hst ta ca z2 pd sg nm z3 y6 (7 : Int32) x6 h7) (cwV 2 hts (gqV mw_347 mw_348 mw_349 mw_51 mw_271) rfl rfl rfl hd_X3_quarrel ⟨Nat.le_of_ble_eq_true rfl, Nat.le_of_ble_eq_true rfl⟩) hK hP q_E_bl (q_E_go hE hS (fun _ h9 => h9)) [0, 1, 2, 3, 4, 5, 6, 7, 8, 9, 10, 11, 12, 13, 14, 15, 16, 17, 18, 19, 20, 21] rfl rfl rfl rfl hl.1 rfl (Nat.le_of_ble_eq_true rfl) dL_areQuarrelsSo_39 ⟨Nat.zero_le _, Nat.zero_le _⟩ ?_
      refine lv_istore (lv' := [(8, .int x6), (7, .int x4), (0, .ref w), (1, .int y1), (2, .int y2), (3, .int y3), (4, .int y4), (5, .int y5), (6, .int y6)]) hx hb dL_areQuarrelsSo_42 hl (by decide) rfl (fun ls hl => ?_)
      refine lv_aload_n hx hb dL_areQuarrelsSo_44 rfl (lv_at hl 2 rfl) ?_
      refine lv_aload_n hx hb dL_areQuarrelsSo_45 rfl (lv_at hl 2 rfl) ?_
      refine lv_iload hx hb dL_areQuarrelsSo_46 (lv_at hl 8 rfl) ?_
      refine lv_iconst (v := 0) hx hb dL_areQuarrelsSo_48 (by decide) ?_
      obtain ⟨x8, h9, h⟩ := bE h
      refine x_RV (As := [.int y6, .int (0 : Int32)]) (rest := [.ref w]) hF (c_X3_quarrel l D cI cZ cT G A w sl o a z1 hs hst ta ca z2 pd sg nm z3 y6 (0 : Int32) x8 h9) (cwV 2 hts (gqV mw_347 mw_348 mw_349 mw_51 mw_271) rfl rfl rfl hd_X3_quarrel ⟨Nat.le_of_ble_eq_true rfl, Nat.le_of_ble_eq_true rfl⟩) hK hP q_E_bl (q_E_go hE hS (fun _ h9 => h9)) [0, 1, 2, 3, 4, 5, 6, 7, 8, 9, 10, 11, 12, 13, 14, 15, 16, 17, 18, 19, 20, 21] rfl rfl rfl rfl hl.1 rfl (Nat.le_of_ble_eq_true rfl) dL_areQuarrelsSo_49 ⟨Nat.zero_le _, Nat.zero_le _⟩ ?_
      refine lv_aload_n hx hb dL_areQuarrelsSo_52 rfl (lv_at hl 2 rfl) ?_
      refine lv_iload hx hb dL_areQuarrelsSo_53 (lv_at hl 8 rfl) ?_
      refine lv_iconst (v := 1) hx hb dL_areQuarrelsSo_55 (by decide) ?_
      obtain ⟨x10, h11, h⟩ := bE h
      refine x_RV (As := [.int y6, .int (1 : Int32)]) (rest := [.int x8, .ref w]) hF (c_X3_quarrel l D cI cZ cT G A w sl o a z1 hs hst ta ca z2 pd sg nm z3 y6 (1 : Int32) x10 h11) (cwV 2 hts (gqV mw_347 mw_348 mw_349 mw_51 mw_271) rfl rfl rfl hd_X3_quarrel ⟨Nat.le_of_ble_eq_true rfl, Nat.le_of_ble_eq_true rfl⟩) hK hP q_E_bl (q_E_go hE hS (fun _ h9 => h9)) [0, 1, 2, 3, 4, 5, 6, 7, 8, 9, 10, 11, 12, 13, 14, 15, 16, 17, 18, 19, 20, 21] rfl rfl rfl rfl hl.1 rfl (Nat.le_of_ble_eq_true rfl) dL_areQuarrelsSo_56 ⟨Nat.zero_le _, Nat.zero_le _⟩ ?_
      refine lv_aload_n hx hb dL_areQuarrelsSo_59 rfl (lv_at hl 2 rfl) ?_
      refine lv_iload hx hb dL_areQuarrelsSo_60 (lv_at hl 8 rfl) ?_
      refine lv_iconst (v := 2) hx hb dL_areQuarrelsSo_62 (by decide) ?_
      obtain ⟨x12, h13, h⟩ := bE h
      refine x_RV (As := [.int y6, .int (2 : Int32)]) (rest := [.int x10, .int x8, .ref w]) hF (c_X3_quarrel l D cI cZ cT G A w sl o a z1 hs hst ta ca z2 pd sg nm z3 y6 (2 : Int32) x12 h13) (cwV 2 hts (gqV mw_347 mw_348 mw_349 mw_51 mw_271) rfl rfl rfl hd_X3_quarrel ⟨Nat.le_of_ble_eq_true rfl, Nat.le_of_ble_eq_true rfl⟩) hK hP q_E_bl (q_E_go hE hS (fun _ h9 => h9)) [0, 1, 2, 3, 4, 5, 6, 7, 8, 9, 10, 11, 12, 13, 14, 15, 16, 17, 18, 19, 20, 21] rfl rfl rfl rfl hl.1 rfl (Nat.le_of_ble_eq_true rfl) dL_areQuarrelsSo_63 ⟨Nat.zero_le _, Nat.zero_le _⟩ ?_
      refine lv_aload_n hx hb dL_areQuarrelsSo_66 rfl (lv_at hl 2 rfl) ?_
      refine lv_iload hx hb dL_areQuarrelsSo_67 (lv_at hl 8 rfl) ?_
      refine lv_iconst (v := 3) hx hb dL_areQuarrelsSo_69 (by decide) ?_
      obtain ⟨x14, h15, h⟩ := bE h
      refine x_RV (As := [.int y6, .int (3 : Int32)]) (rest := [.int x12, .int x10, .int x8, .ref w]) hF (c_X3_quarrel l D cI cZ cT G A w sl o a z1 hs hst ta ca z2 pd sg nm z3 y6 (3 : Int32) x14 h15) (cwV 2 hts (gqV mw_347 mw_348 mw_349 mw_51 mw_271) rfl rfl rfl hd_X3_quarrel ⟨Nat.le_of_ble_eq_true rfl, Nat.le_of_ble_eq_true rfl⟩) hK hP q_E_bl (q_E_go hE hS (fun _ h9 => h9)) [0, 1, 2, 3, 4, 5, 6, 7, 8, 9, 10, 11, 12, 13, 14, 15, 16, 17, 18, 19, 20, 21] rfl rfl rfl rfl hl.1 rfl (Nat.le_of_ble_eq_true rfl) dL_areQuarrelsSo_70 ⟨Nat.zero_le _, Nat.zero_le _⟩ ?_
      refine lv_iload hx hb dL_areQuarrelsSo_73 (lv_at hl 8 rfl) ?_
      obtain ⟨x16, h17, h⟩ := bE h
      refine x_RS (As := [.ref w, .int x8, .int x10, .int x12, .int x14, .int y6]) (rest := []) hF (c_L_ways l D cI cZ cT G A w sl o a z1 hs hst ta ca z2 pd sg nm z3 x8 x10 x12 x14 y6 x16 h17) (va_cwS 6 hts (gqS mw_351 mw_352 mw_309 mw_350) rfl rfl rfl hd_L_ways.2 ⟨Nat.le_of_ble_eq_true rfl, Nat.le_of_ble_eq_true rfl⟩) hK hP q_E_bl (q_E_go hE hS (fun _ h9 => h9)) [0, 1, 2, 3, 4, 5, 6, 7, 8, 9, 10, 11, 12, 13, 14, 15, 16, 17, 18, 19, 20, 21] rfl rfl hl.1 rfl (Nat.le_of_ble_eq_true rfl) dL_areQuarrelsSo_75 ⟨Nat.zero_le _, Nat.zero_le _⟩ ?_
      refine lv_istore (lv' := [(9, .int x16), (8, .int x6), (7, .int x4), (0, .ref w), (1, .int y1), (2, .int y2), (3, .int y3), (4, .int y4), (5, .int y5), (6, .int y6)]) hx hb dL_areQuarrelsSo_78 hl (by decide) rfl (fun ls hl => ?_)
      refine lv_aload_n hx hb dL_areQuarrelsSo_80 rfl (lv_at hl 3 rfl) ?_
      refine lv_iload hx hb dL_areQuarrelsSo_81 (lv_at hl 9 rfl) ?_
      obtain ⟨x18, h19, h⟩ := bE h
      refine x_RV (As := [.int y6]) (rest := []) hF (c_X3_firstWay l D cI cZ cT G A w sl o a z1 hs hst ta ca z2 pd sg nm z3 y6 x18 h19) (cwV 1 hts (gqV mw_353 mw_354 mw_355 mw_51 mw_286) rfl rfl rfl hd_X3_firstWay ⟨Nat.le_of_ble_eq_true rfl, Nat.le_of_ble_eq_true rfl⟩) hK hP q_E_bl (q_E_go hE hS (fun _ h9 => h9)) [0, 1, 2, 3, 4, 5, 6, 7, 8, 9, 10, 11, 12, 13, 14, 15, 16, 17, 18, 19, 20, 21] rfl rfl rfl rfl hl.1 rfl (Nat.le_of_ble_eq_true rfl) dL_areQuarrelsSo_83 ⟨Nat.zero_le _, Nat.zero_le _⟩ ?_
      refine lv_istore (lv' := [(10, .int x18), (9, .int x16), (8, .int x6), (7, .int x4), (0, .ref w), (1, .int y1), (2, .int y2), (3, .int y3), (4, .int y4), (5, .int y5), (6, .int y6)]) hx hb dL_areQuarrelsSo_86 hl (by decide) rfl (fun ls hl => ?_)
      refine lv_iload_n hx hb dL_areQuarrelsSo_88 rfl (lv_at hl 5 rfl) ?_
      refine lv_iload hx hb dL_areQuarrelsSo_89 (lv_at hl 3 rfl) ?_
      refine x_j (V := Int32) (nL := 14) (fun v20 => [(0, .ref w), (2, .int y2), (3, .int y3), (4, .int y4), (5, .int y5), (6, .int y6), (7, .int x4), (8, .int x6), (9, .int x16), (10, .int x18)]) 102 (fun v20 => [.int v20, .int y1]) h (fun v20 h ls hl => ?_) (fun v20 h hj => ?_)
      · refine lv_ior hx hb dL_areQuarrelsSo_102 ?_
        refine lv_istore_n (lv' := [(1, .int (y1 ||| v20)), (0, .ref w), (2, .int y2), (3, .int y3), (4, .int y4), (5, .int y5), (6, .int y6), (7, .int x4), (8, .int x6), (9, .int x16), (10, .int x18)]) hx hb dL_areQuarrelsSo_103 rfl hl (by decide) rfl (fun ls hl => ?_)
        refine lv_iload_n hx hb dL_areQuarrelsSo_104 rfl (lv_at hl 3 rfl) ?_
        refine lv_iload hx hb dL_areQuarrelsSo_105 (lv_at hl 7 rfl) ?_
        refine lv_iconst (v := 1) hx hb dL_areQuarrelsSo_107 (by decide) ?_
        refine x_j (V := Int32) (nL := 14) (fun v21 => [(0, .ref w), (1, .int (y1 ||| v20)), (2, .int y2), (4, .int y4), (5, .int y5), (6, .int y6), (7, .int x4), (8, .int x6), (9, .int x16), (10, .int x18)]) 116 (fun v21 => [.int v21, .int y3]) h (fun v21 h ls hl => ?_) (fun v21 h hj => ?_)
        · refine lv_iadd hx hb dL_areQuarrelsSo_116 ?_
          refine lv_istore_n (lv' := [(3, .int (y3 + v21)), (0, .ref w), (1, .int (y1 ||| v20)), (2, .int y2), (4, .int y4), (5, .int y5), (6, .int y6), (7, .int x4), (8, .int x6), (9, .int x16), (10, .int x18)]) hx hb dL_areQuarrelsSo_117 rfl hl (by decide) rfl (fun ls hl => ?_)
          refine lv_iload hx hb dL_areQuarrelsSo_118 (lv_at hl 4 rfl) ?_
          refine lv_iload hx hb dL_areQuarrelsSo_120 (lv_at hl 7 rfl) ?_
          refine lv_iconst (v := 2) hx hb dL_areQuarrelsSo_122 (by decide) ?_
          refine x_j (V := Int32) (nL := 14) (fun v22 => [(0, .ref w), (1, .int (y1 ||| v20)), (2, .int y2), (3, .int (y3 + v21)), (5, .int y5), (6, .int y6), (7, .int x4), (8, .int x6), (9, .int x16), (10, .int x18)]) 131 (fun v22 => [.int v22, .int y4]) h (fun v22 h ls hl => ?_) (fun v22 h hj => ?_)
          · refine lv_iadd hx hb dL_areQuarrelsSo_131 ?_
            refine lv_istore (lv' := [(4, .int (y4 + v22)), (0, .ref w), (1, .int (y1 ||| v20)), (2, .int y2), (3, .int (y3 + v21)), (5, .int y5), (6, .int y6), (7, .int x4), (8, .int x6), (9, .int x16), (10, .int x18)]) hx hb dL_areQuarrelsSo_132 hl (by decide) rfl (fun ls hl => ?_)
            refine lv_iload hx hb dL_areQuarrelsSo_134 (lv_at hl 5 rfl) ?_
            refine x_j (V := Int32) (nL := 14) (fun v23 => [(0, .ref w), (1, .int (y1 ||| v20)), (2, .int y2), (3, .int (y3 + v21)), (4, .int (y4 + v22)), (6, .int y6), (7, .int x4), (8, .int x6), (10, .int x18)]) 215 (fun v23 => [.int v23]) h (fun v23 h ls hl => ?_) (fun v23 h hj => ?_)
            · refine lv_istore (lv' := [(5, .int v23), (0, .ref w), (1, .int (y1 ||| v20)), (2, .int y2), (3, .int (y3 + v21)), (4, .int (y4 + v22)), (6, .int y6), (7, .int x4), (8, .int x6), (10, .int x18)]) hx hb dL_areQuarrelsSo_215 hl (by decide) rfl (fun ls hl => ?_)
              refine lv_iload hx hb dL_areQuarrelsSo_217 (lv_at hl 7 rfl) ?_
              refine x_j (V := Int32) (nL := 14) (fun v24 => [(0, .ref w), (1, .int (y1 ||| v20)), (2, .int y2), (3, .int (y3 + v21)), (4, .int (y4 + v22)), (5, .int v23), (6, .int y6), (7, .int x4), (8, .int x6), (10, .int x18)]) 256 (fun v24 => [.int v24]) h (fun v24 h ls hl => ?_) (fun v24 h hj => ?_)
              · refine lv_istore (lv' := [(11, .int v24), (0, .ref w), (1, .int (y1 ||| v20)), (2, .int y2), (3, .int (y3 + v21)), (4, .int (y4 + v22)), (5, .int v23), (6, .int y6), (7, .int x4), (8, .int x6), (10, .int x18)]) hx hb dL_areQuarrelsSo_256 hl (by decide) rfl (fun ls hl => ?_)
                refine lv_iload_n hx hb dL_areQuarrelsSo_258 rfl (lv_at hl 3 rfl) ?_
                refine lv_iload hx hb dL_areQuarrelsSo_259 (lv_at hl 0 rfl) ?_
                refine x_j (V := Int32) (nL := 14) (fun v25 => [(0, .ref w), (1, .int (y1 ||| v20)), (3, .int (y3 + v21)), (4, .int (y4 + v22)), (5, .int v23), (6, .int y6), (7, .int x4), (8, .int x6), (10, .int x18), (11, .int v24)]) 272 (fun v25 => [.int v25, .int y2]) h (fun v25 h ls hl => ?_) (fun v25 h hj => ?_)
                · refine lv_ior hx hb dL_areQuarrelsSo_272 ?_
                  refine lv_istore_n (lv' := [(2, .int (y2 ||| v25)), (0, .ref w), (1, .int (y1 ||| v20)), (3, .int (y3 + v21)), (4, .int (y4 + v22)), (5, .int v23), (6, .int y6), (7, .int x4), (8, .int x6), (10, .int x18), (11, .int v24)]) hx hb dL_areQuarrelsSo_273 rfl hl (by decide) rfl (fun ls hl => ?_)
                  refine lv_iload hx hb dL_areQuarrelsSo_274 (lv_at hl 5 rfl) ?_
                  refine x_j (V := Int32) (nL := 14) (fun v26 => [(0, .ref w), (1, .int (y1 ||| v20)), (2, .int (y2 ||| v25)), (3, .int (y3 + v21)), (4, .int (y4 + v22)), (6, .int y6), (8, .int x6), (10, .int x18)]) 354 (fun v26 => [.int v26]) h (fun v26 h ls hl => ?_) (fun v26 h hj => ?_)
                  · refine lv_istore (lv' := [(5, .int v26), (0, .ref w), (1, .int (y1 ||| v20)), (2, .int (y2 ||| v25)), (3, .int (y3 + v21)), (4, .int (y4 + v22)), (6, .int y6), (8, .int x6), (10, .int x18)]) hx hb dL_areQuarrelsSo_354 hl (by decide) rfl (fun ls hl => ?_)
                    refine lv_iload hx hb dL_areQuarrelsSo_356 (lv_at hl 0 rfl) ?_
                    refine x_j (V := Int32) (nL := 14) (fun v27 => [(0, .ref w), (1, .int (y1 ||| v20)), (2, .int (y2 ||| v25)), (3, .int (y3 + v21)), (4, .int (y4 + v22)), (6, .int y6)]) 409 (fun v27 => [.int v27]) h (fun v27 h ls hl => ?_) (fun v27 h hj => ?_)
                    · refine lv_istore (lv' := [(5, .int v27), (0, .ref w), (1, .int (y1 ||| v20)), (2, .int (y2 ||| v25)), (3, .int (y3 + v21)), (4, .int (y4 + v22)), (6, .int y6)]) hx hb dL_areQuarrelsSo_409 hl (by decide) rfl (fun ls hl => ?_)
                      refine lv_aload_n hx hb dL_areQuarrelsSo_411 rfl (lv_at hl 1 rfl) ?_
                      refine lv_iload hx hb dL_areQuarrelsSo_412 (lv_at hl 6 rfl) ?_
                      refine lv_iconst (v := 0) hx hb dL_areQuarrelsSo_414 (by decide) ?_
                      obtain ⟨x28, h29, h⟩ := bE h
                      refine x_RV (As := [.int y6, .int (0 : Int32)]) (rest := []) hF (c_X3_quarrel l D cI cZ cT G A w sl o a z1 hs hst ta ca z2 pd sg nm z3 y6 (0 : Int32) x28 h29) (cwV 2 hts (gqV mw_347 mw_348 mw_349 mw_51 mw_271) rfl rfl rfl hd_X3_quarrel ⟨Nat.le_of_ble_eq_true rfl, Nat.le_of_ble_eq_true rfl⟩) hK hP q_E_bl (q_E_go hE hS (fun _ h9 => h9)) [0, 1, 2, 3, 4, 5, 6, 7, 8, 9, 10, 11, 12, 13, 14, 15, 16, 17, 18, 19, 20, 21] rfl rfl rfl rfl hl.1 rfl (Nat.le_of_ble_eq_true rfl) dL_areQuarrelsSo_415 ⟨Nat.zero_le _, Nat.zero_le _⟩ ?_
                      refine lv_istore (lv' := [(12, .int x28), (5, .int v27), (0, .ref w), (1, .int (y1 ||| v20)), (2, .int (y2 ||| v25)), (3, .int (y3 + v21)), (4, .int (y4 + v22)), (6, .int y6)]) hx hb dL_areQuarrelsSo_418 hl (by decide) rfl (fun ls hl => ?_)
                      refine lv_aload_n hx hb dL_areQuarrelsSo_420 rfl (lv_at hl 2 rfl) ?_
                      refine lv_iload hx hb dL_areQuarrelsSo_421 (lv_at hl 7 rfl) ?_
                      refine lv_iconst (v := 1) hx hb dL_areQuarrelsSo_423 (by decide) ?_
                      obtain ⟨x30, h31, h⟩ := bE h
                      refine x_RV (As := [.int y6, .int (1 : Int32)]) (rest := []) hF (c_X3_quarrel l D cI cZ cT G A w sl o a z1 hs hst ta ca z2 pd sg nm z3 y6 (1 : Int32) x30 h31) (cwV 2 hts (gqV mw_347 mw_348 mw_349 mw_51 mw_271) rfl rfl rfl hd_X3_quarrel ⟨Nat.le_of_ble_eq_true rfl, Nat.le_of_ble_eq_true rfl⟩) hK hP q_E_bl (q_E_go hE hS (fun _ h9 => h9)) [0, 1, 2, 3, 4, 5, 6, 7, 8, 9, 10, 11, 12, 13, 14, 15, 16, 17, 18, 19, 20, 21] rfl rfl rfl rfl hl.1 rfl (Nat.le_of_ble_eq_true rfl) dL_areQuarrelsSo_424 ⟨Nat.zero_le _, Nat.zero_le _⟩ ?_
                      refine lv_istore (lv' := [(13, .int x30), (12, .int x28), (5, .int v27), (0, .ref w), (1, .int (y1 ||| v20)), (2, .int (y2 ||| v25)), (3, .int (y3 + v21)), (4, .int (y4 + v22)), (6, .int y6)]) hx hb dL_areQuarrelsSo_427 hl (by decide) rfl (fun ls hl => ?_)
                      refine lv_iload hx hb dL_areQuarrelsSo_429 (lv_at hl 2 rfl) ?_
                      refine lv_if_eq (tgt := 491) hx hb dL_areQuarrelsSo_431 (by decide) (fun c32 => ?_) (fun c32 => ?_)
                      · have h := xt c32 h
                        refine lv_iconst (v := 0) hx hb dL_areQuarrelsSo_491 (by decide) ?_
                        refine lv_istore (lv' := [(5, .int (0 : Int32)), (13, .int x30), (12, .int x28), (0, .ref w), (1, .int (y1 ||| v20)), (2, .int (y2 ||| v25)), (3, .int (y3 + v21)), (4, .int (y4 + v22)), (6, .int y6)]) hx hb dL_areQuarrelsSo_492 hl (by decide) rfl (fun ls hl => ?_)
                        refine lv_iinc (v := (y6 + (1 : Int32))) (lv' := [(6, .int (y6 + (1 : Int32))), (5, .int (0 : Int32)), (13, .int x30), (12, .int x28), (0, .ref w), (1, .int (y1 ||| v20)), (2, .int (y2 ||| v25)), (3, .int (y3 + v21)), (4, .int (y4 + v22))]) hx hb dL_areQuarrelsSo_494 hl (k := 8) rfl rfl (by decide) rfl (fun ls hl => ?_)
                        refine lv_goto (tgt := 15) hx hb dL_areQuarrelsSo_497 (by decide) ?_
                        exact ih (y1 ||| v20) (y2 ||| v25) (y3 + v21) (y4 + v22) (0 : Int32) (y6 + (1 : Int32)) _ (lv_sub hl [4, 5, 6, 7, 8, 1, 0] rfl) h
                      · have h := xf c32 h
                        refine lv_aload_n hx hb dL_areQuarrelsSo_434 rfl (lv_at hl 3 rfl) ?_
                        refine lv_iload hx hb dL_areQuarrelsSo_435 (lv_at hl 8 rfl) ?_
                        obtain ⟨x33, h34, h⟩ := bE h
                        refine x_RV (As := [.int y6]) (rest := []) hF (c_X3_ifFought l D cI cZ cT G A w sl o a z1 hs hst ta ca z2 pd sg nm z3 y6 x33 h34) (cwV 1 hts (gqV mw_359 mw_360 mw_361 mw_51 mw_294) rfl rfl rfl hd_X3_ifFought ⟨Nat.le_of_ble_eq_true rfl, Nat.le_of_ble_eq_true rfl⟩) hK hP q_E_bl (q_E_go hE hS (fun _ h9 => h9)) [0, 1, 2, 3, 4, 5, 6, 7, 8, 9, 10, 11, 12, 13, 14, 15, 16, 17, 18, 19, 20, 21] rfl rfl rfl rfl hl.1 rfl (Nat.le_of_ble_eq_true rfl) dL_areQuarrelsSo_437 ⟨Nat.zero_le _, Nat.zero_le _⟩ ?_
                        refine lv_iconst (v := 2) hx hb dL_areQuarrelsSo_440 (by decide) ?_
                        refine lv_aload_n hx hb dL_areQuarrelsSo_441 rfl (lv_at hl 3 rfl) ?_
                        refine lv_iload hx hb dL_areQuarrelsSo_442 (lv_at hl 1 rfl) ?_
                        refine lv_iconst (v := 1) hx hb dL_areQuarrelsSo_444 (by decide) ?_
                        obtain ⟨x35, h36, h⟩ := bE h
                        refine x_RV (As := [.int x28, .int (1 : Int32)]) (rest := [.int (2 : Int32), .int x33]) hF (c_X3_of l D cI cZ cT G A w sl o a z1 hs hst ta ca z2 pd sg nm z3 x28 (1 : Int32) x35 h36) (cwV 2 hts (gqV mw_341 mw_342 mw_343 mw_51 mw_268) rfl rfl rfl hd_X3_of ⟨Nat.le_of_ble_eq_true rfl, Nat.le_of_ble_eq_true rfl⟩) hK hP q_E_bl (q_E_go hE hS (fun _ h9 => h9)) [0, 1, 2, 3, 4, 5, 6, 7, 8, 9, 10, 11, 12, 13, 14, 15, 16, 17, 18, 19, 20, 21] rfl rfl rfl rfl hl.1 rfl (Nat.le_of_ble_eq_true rfl) dL_areQuarrelsSo_445 ⟨Nat.zero_le _, Nat.zero_le _⟩ ?_
                        refine lv_imul hx hb dL_areQuarrelsSo_448 ?_
                        refine lv_aload_n hx hb dL_areQuarrelsSo_449 rfl (lv_at hl 3 rfl) ?_
                        refine lv_iload hx hb dL_areQuarrelsSo_450 (lv_at hl 1 rfl) ?_
                        refine lv_iconst (v := 0) hx hb dL_areQuarrelsSo_452 (by decide) ?_
                        obtain ⟨x37, h38, h⟩ := bE h
                        refine x_RV (As := [.int x28, .int (0 : Int32)]) (rest := [.int ((2 : Int32) * x35), .int x33]) hF (c_X3_of l D cI cZ cT G A w sl o a z1 hs hst ta ca z2 pd sg nm z3 x28 (0 : Int32) x37 h38) (cwV 2 hts (gqV mw_341 mw_342 mw_343 mw_51 mw_268) rfl rfl rfl hd_X3_of ⟨Nat.le_of_ble_eq_true rfl, Nat.le_of_ble_eq_true rfl⟩) hK hP q_E_bl (q_E_go hE hS (fun _ h9 => h9)) [0, 1, 2, 3, 4, 5, 6, 7, 8, 9, 10, 11, 12, 13, 14, 15, 16, 17, 18, 19, 20, 21] rfl rfl rfl rfl hl.1 rfl (Nat.le_of_ble_eq_true rfl) dL_areQuarrelsSo_453 ⟨Nat.zero_le _, Nat.zero_le _⟩ ?_
                        refine lv_iadd hx hb dL_areQuarrelsSo_456 ?_
                        refine lv_iconst (v := 2) hx hb dL_areQuarrelsSo_457 (by decide) ?_
                        refine lv_aload_n hx hb dL_areQuarrelsSo_458 rfl (lv_at hl 3 rfl) ?_
                        refine lv_iload hx hb dL_areQuarrelsSo_459 (lv_at hl 0 rfl) ?_
                        refine lv_iconst (v := 1) hx hb dL_areQuarrelsSo_461 (by decide) ?_
                        obtain ⟨x39, h40, h⟩ := bE h
                        refine x_RV (As := [.int x30, .int (1 : Int32)]) (rest := [.int (2 : Int32), .int (((2 : Int32) * x35) + x37), .int x33]) hF (c_X3_of l D cI cZ cT G A w sl o a z1 hs hst ta ca z2 pd sg nm z3 x30 (1 : Int32) x39 h40) (cwV 2 hts (gqV mw_341 mw_342 mw_343 mw_51 mw_268) rfl rfl rfl hd_X3_of ⟨Nat.le_of_ble_eq_true rfl, Nat.le_of_ble_eq_true rfl⟩) hK hP q_E_bl (q_E_go hE hS (fun _ h9 => h9)) [0, 1, 2, 3, 4, 5, 6, 7, 8, 9, 10, 11, 12, 13, 14, 15, 16, 17, 18, 19, 20, 21] rfl rfl rfl rfl hl.1 rfl (Nat.le_of_ble_eq_true rfl) dL_areQuarrelsSo_462 ⟨Nat.zero_le _, Nat.zero_le _⟩ ?_
                        refine lv_imul hx hb dL_areQuarrelsSo_465 ?_
                        refine lv_aload_n hx hb dL_areQuarrelsSo_466 rfl (lv_at hl 3 rfl) ?_
                        refine lv_iload hx hb dL_areQuarrelsSo_467 (lv_at hl 0 rfl) ?_
                        refine lv_iconst (v := 0) hx hb dL_areQuarrelsSo_469 (by decide) ?_
                        obtain ⟨x41, h42, h⟩ := bE h
                        refine x_RV (As := [.int x30, .int (0 : Int32)]) (rest := [.int ((2 : Int32) * x39), .int (((2 : Int32) * x35) + x37), .int x33]) hF (c_X3_of l D cI cZ cT G A w sl o a z1 hs hst ta ca z2 pd sg nm z3 x30 (0 : Int32) x41 h42) (cwV 2 hts (gqV mw_341 mw_342 mw_343 mw_51 mw_268) rfl rfl rfl hd_X3_of ⟨Nat.le_of_ble_eq_true rfl, Nat.le_of_ble_eq_true rfl⟩) hK hP q_E_bl (q_E_go hE hS (fun _ h9 => h9)) [0, 1, 2, 3, 4, 5, 6, 7, 8, 9, 10, 11, 12, 13, 14, 15, 16, 17, 18, 19, 20, 21] rfl rfl rfl rfl hl.1 rfl (Nat.le_of_ble_eq_true rfl) dL_areQuarrelsSo_470 ⟨Nat.zero_le _, Nat.zero_le _⟩ ?_
                        refine lv_iadd hx hb dL_areQuarrelsSo_473 ?_
                        refine x_j (V := Int32) (nL := 14) (fun v43 => [(0, .ref w), (1, .int (y1 ||| v20)), (2, .int (y2 ||| v25)), (3, .int (y3 + v21)), (4, .int (y4 + v22)), (6, .int y6)]) 484 (fun v43 => [.int v43, .int x33]) h (fun v43 h ls hl => ?_) (fun v43 h hj => ?_)
                        · refine lv_icmp_ne (tgt := 491) hx hb dL_areQuarrelsSo_484 (by decide) (fun c44 => ?_) (fun c44 => ?_)
                          · have h := xf c44 h
                            refine lv_iconst (v := 0) hx hb dL_areQuarrelsSo_491 (by decide) ?_
                            refine lv_istore (lv' := [(5, .int (0 : Int32)), (0, .ref w), (1, .int (y1 ||| v20)), (2, .int (y2 ||| v25)), (3, .int (y3 + v21)), (4, .int (y4 + v22)), (6, .int y6)]) hx hb dL_areQuarrelsSo_492 hl (by decide) rfl (fun ls hl => ?_)
                            refine lv_iinc (v := (y6 + (1 : Int32))) (lv' := [(6, .int (y6 + (1 : Int32))), (5, .int (0 : Int32)), (0, .ref w), (1, .int (y1 ||| v20)), (2, .int (y2 ||| v25)), (3, .int (y3 + v21)), (4, .int (y4 + v22))]) hx hb dL_areQuarrelsSo_494 hl (k := 6) rfl rfl (by decide) rfl (fun ls hl => ?_)
                            refine lv_goto (tgt := 15) hx hb dL_areQuarrelsSo_497 (by decide) ?_
                            exact ih (y1 ||| v20) (y2 ||| v25) (y3 + v21) (y4 + v22) (0 : Int32) (y6 + (1 : Int32)) _ (lv_sub hl [2, 3, 4, 5, 6, 1, 0] rfl) h
                          · have h := xt c44 h
                            refine lv_iconst (v := 1) hx hb dL_areQuarrelsSo_487 (by decide) ?_
                            refine lv_goto (tgt := 492) hx hb dL_areQuarrelsSo_488 (by decide) ?_
                            refine lv_istore (lv' := [(5, .int (1 : Int32)), (0, .ref w), (1, .int (y1 ||| v20)), (2, .int (y2 ||| v25)), (3, .int (y3 + v21)), (4, .int (y4 + v22)), (6, .int y6)]) hx hb dL_areQuarrelsSo_492 hl (by decide) rfl (fun ls hl => ?_)
                            refine lv_iinc (v := (y6 + (1 : Int32))) (lv' := [(6, .int (y6 + (1 : Int32))), (5, .int (1 : Int32)), (0, .ref w), (1, .int (y1 ||| v20)), (2, .int (y2 ||| v25)), (3, .int (y3 + v21)), (4, .int (y4 + v22))]) hx hb dL_areQuarrelsSo_494 hl (k := 6) rfl rfl (by decide) rfl (fun ls hl => ?_)
                            refine lv_goto (tgt := 15) hx hb dL_areQuarrelsSo_497 (by decide) ?_
                            exact ih (y1 ||| v20) (y2 ||| v25) (y3 + v21) (y4 + v22) (1 : Int32) (y6 + (1 : Int32)) _ (lv_sub hl [2, 3, 4, 5, 6, 1, 0] rfl) h
                        · refine lv_icmp_le (tgt := 482) hx hb dL_areQuarrelsSo_474 (by decide) (fun c45 => ?_) (fun c45 => ?_)
                          · have h := xt c45 h
                            refine lv_iload hx hb dL_areQuarrelsSo_482 (lv_at hl 0 rfl) ?_
                            cases h
                            exact hj _ (lv_sub hl [3, 4, 5, 6, 7, 8] rfl)
                          · have h := xf c45 h
                            refine lv_iload hx hb dL_areQuarrelsSo_477 (lv_at hl 1 rfl) ?_
                            refine lv_goto (tgt := 484) hx hb dL_areQuarrelsSo_479 (by decide) ?_
                            cases h
                            exact hj _ (lv_sub hl [3, 4, 5, 6, 7, 8] rfl)
                    · refine lv_if_eq (tgt := 408) hx hb dL_areQuarrelsSo_358 (by decide) (fun c46 => ?_) (fun c46 => ?_)
                      · have h := xt c46 h
                        refine lv_iconst (v := 0) hx hb dL_areQuarrelsSo_408 (by decide) ?_
                        cases h
                        exact hj _ (lv_sub hl [1, 2, 3, 4, 5, 6] rfl)
                      · have h := xf c46 h
                        refine lv_iload hx hb dL_areQuarrelsSo_361 (lv_at hl 7 rfl) ?_
                        refine lv_if_ne (tgt := 376) hx hb dL_areQuarrelsSo_363 (by decide) (fun c47 => ?_) (fun c47 => ?_)
                        · have h := xf c47 h
                          refine lv_iload hx hb dL_areQuarrelsSo_376 (lv_at hl 8 rfl) ?_
                          refine lv_if_lt (tgt := 408) hx hb dL_areQuarrelsSo_378 (by decide) (fun c48 => ?_) (fun c48 => ?_)
                          · have h := xt c48 h
                            refine lv_iconst (v := 0) hx hb dL_areQuarrelsSo_408 (by decide) ?_
                            cases h
                            exact hj _ (lv_sub hl [1, 2, 3, 4, 5, 6] rfl)
                          · have h := xf c48 h
                            refine lv_iload hx hb dL_areQuarrelsSo_381 (lv_at hl 7 rfl) ?_
                            refine lv_iload hx hb dL_areQuarrelsSo_383 (lv_at hl 8 rfl) ?_
                            refine lv_ishr hx hb dL_areQuarrelsSo_385 ?_
                            refine lv_iconst (v := 1) hx hb dL_areQuarrelsSo_386 (by decide) ?_
                            refine lv_iand hx hb dL_areQuarrelsSo_387 ?_
                            refine lv_iconst (v := 1) hx hb dL_areQuarrelsSo_388 (by decide) ?_
                            refine lv_icmp_ne (tgt := 408) hx hb dL_areQuarrelsSo_389 (by decide) (fun c49 => ?_) (fun c49 => ?_)
                            · have h := xf c49 h
                              refine lv_iconst (v := 0) hx hb dL_areQuarrelsSo_408 (by decide) ?_
                              cases h
                              exact hj _ (lv_sub hl [1, 2, 3, 4, 5, 6] rfl)
                            · have h := xt c49 h
                              refine lv_iload hx hb dL_areQuarrelsSo_392 (lv_at hl 7 rfl) ?_
                              refine lv_iconst (v := 1) hx hb dL_areQuarrelsSo_394 (by decide) ?_
                              refine lv_iload hx hb dL_areQuarrelsSo_395 (lv_at hl 8 rfl) ?_
                              refine lv_ishl hx hb dL_areQuarrelsSo_397 ?_
                              refine lv_iconst (v := 1) hx hb dL_areQuarrelsSo_398 (by decide) ?_
                              refine lv_isub hx hb dL_areQuarrelsSo_399 ?_
                              refine lv_iand hx hb dL_areQuarrelsSo_400 ?_
                              refine lv_if_ne (tgt := 408) hx hb dL_areQuarrelsSo_401 (by decide) (fun c50 => ?_) (fun c50 => ?_)
                              · have h := xf c50 h
                                refine lv_iconst (v := 0) hx hb dL_areQuarrelsSo_408 (by decide) ?_
                                cases h
                                exact hj _ (lv_sub hl [1, 2, 3, 4, 5, 6] rfl)
                              · have h := xt c50 h
                                refine lv_iconst (v := 1) hx hb dL_areQuarrelsSo_404 (by decide) ?_
                                refine lv_goto (tgt := 409) hx hb dL_areQuarrelsSo_405 (by decide) ?_
                                cases h
                                exact hj _ (lv_sub hl [1, 2, 3, 4, 5, 6] rfl)
                        · have h := xt c47 h
                          refine lv_iload hx hb dL_areQuarrelsSo_366 (lv_at hl 8 rfl) ?_
                          refine lv_bipush (v := (-6)) hx hb dL_areQuarrelsSo_368 (by decide) ?_
                          refine lv_icmp_ne (tgt := 408) hx hb dL_areQuarrelsSo_370 (by decide) (fun c51 => ?_) (fun c51 => ?_)
                          · have h := xf c51 h
                            refine lv_iconst (v := 0) hx hb dL_areQuarrelsSo_408 (by decide) ?_
                            cases h
                            exact hj _ (lv_sub hl [1, 2, 3, 4, 5, 6] rfl)
                          · have h := xt c51 h
                            refine lv_goto (tgt := 404) hx hb dL_areQuarrelsSo_373 (by decide) ?_
                            refine lv_iconst (v := 1) hx hb dL_areQuarrelsSo_404 (by decide) ?_
                            refine lv_goto (tgt := 409) hx hb dL_areQuarrelsSo_405 (by decide) ?_
                            cases h
                            exact hj _ (lv_sub hl [1, 2, 3, 4, 5, 6] rfl)
                  · refine lv_if_eq (tgt := 353) hx hb dL_areQuarrelsSo_276 (by decide) (fun c52 => ?_) (fun c52 => ?_)
                    · have h := xt c52 h
                      refine lv_iconst (v := 0) hx hb dL_areQuarrelsSo_353 (by decide) ?_
                      cases h
                      exact hj _ (lv_sub hl [1, 2, 0, 3, 4, 6, 8, 9] rfl)
                    · have h := xf c52 h
                      refine lv_aload_n hx hb dL_areQuarrelsSo_279 rfl (lv_at hl 1 rfl) ?_
                      refine lv_iload hx hb dL_areQuarrelsSo_280 (lv_at hl 6 rfl) ?_
                      obtain ⟨x53, h54, h⟩ := bE h
                      refine x_RV (As := [.int y6]) (rest := []) hF (c_X3_why l D cI cZ cT G A w sl o a z1 hs hst ta ca z2 pd sg nm z3 y6 x53 h54) (cwV 1 hts (gqV mw_356 mw_357 mw_358 mw_51 mw_284) rfl rfl rfl hd_X3_why ⟨Nat.le_of_ble_eq_true rfl, Nat.le_of_ble_eq_true rfl⟩) hK hP q_E_bl (q_E_go hE hS (fun _ h9 => h9)) [0, 1, 2, 3, 4, 5, 6, 7, 8, 9, 10, 11, 12, 13, 14, 15, 16, 17, 18, 19, 20, 21] rfl rfl rfl rfl hl.1 rfl (Nat.le_of_ble_eq_true rfl) dL_areQuarrelsSo_282 ⟨Nat.zero_le _, Nat.zero_le _⟩ ?_
                      refine lv_iload hx hb dL_areQuarrelsSo_285 (lv_at hl 10 rfl) ?_
                      refine lv_icmp_ne (tgt := 353) hx hb dL_areQuarrelsSo_287 (by decide) (fun c55 => ?_) (fun c55 => ?_)
                      · have h := xf c55 h
                        refine lv_iconst (v := 0) hx hb dL_areQuarrelsSo_353 (by decide) ?_
                        cases h
                        exact hj _ (lv_sub hl [1, 2, 0, 3, 4, 6, 8, 9] rfl)
                      · have h := xt c55 h
                        refine lv_iload hx hb dL_areQuarrelsSo_290 (lv_at hl 7 rfl) ?_
                        refine lv_iconst (v := 1) hx hb dL_areQuarrelsSo_292 (by decide) ?_
                        refine x_j (V := Int32) (nL := 14) (fun v56 => [(0, .ref w), (1, .int (y1 ||| v20)), (2, .int (y2 ||| v25)), (3, .int (y3 + v21)), (4, .int (y4 + v22)), (6, .int y6), (7, .int x4), (8, .int x6), (10, .int x18)]) 301 (fun v56 => [.int v56]) h (fun v56 h ls hl => ?_) (fun v56 h hj => ?_)
                        · refine lv_aload_n hx hb dL_areQuarrelsSo_301 rfl (lv_at hl 0 rfl) ?_
                          refine lv_iload hx hb dL_areQuarrelsSo_302 (lv_at hl 5 rfl) ?_
                          refine lv_iconst (v := 5) hx hb dL_areQuarrelsSo_304 (by decide) ?_
                          obtain ⟨x57, h58, h⟩ := bE h
                          refine x_RV (As := [.int y6, .int (5 : Int32)]) (rest := [.int v56]) hF (c_X3_quarrel l D cI cZ cT G A w sl o a z1 hs hst ta ca z2 pd sg nm z3 y6 (5 : Int32) x57 h58) (cwV 2 hts (gqV mw_347 mw_348 mw_349 mw_51 mw_271) rfl rfl rfl hd_X3_quarrel ⟨Nat.le_of_ble_eq_true rfl, Nat.le_of_ble_eq_true rfl⟩) hK hP q_E_bl (q_E_go hE hS (fun _ h9 => h9)) [0, 1, 2, 3, 4, 5, 6, 7, 8, 9, 10, 11, 12, 13, 14, 15, 16, 17, 18, 19, 20, 21] rfl rfl rfl rfl hl.1 rfl (Nat.le_of_ble_eq_true rfl) dL_areQuarrelsSo_305 ⟨Nat.zero_le _, Nat.zero_le _⟩ ?_
                          refine x_j (V := Int32) (nL := 14) (fun v59 => [(0, .ref w), (1, .int (y1 ||| v20)), (2, .int (y2 ||| v25)), (3, .int (y3 + v21)), (4, .int (y4 + v22)), (6, .int y6), (7, .int x4), (8, .int x6), (10, .int x18)]) 316 (fun v59 => [.int v59, .int v56]) h (fun v59 h ls hl => ?_) (fun v59 h hj => ?_)
                          · refine lv_icmp_ne (tgt := 353) hx hb dL_areQuarrelsSo_316 (by decide) (fun c60 => ?_) (fun c60 => ?_)
                            · have h := xf c60 h
                              refine lv_iconst (v := 0) hx hb dL_areQuarrelsSo_353 (by decide) ?_
                              cases h
                              exact hj _ (lv_sub hl [0, 1, 2, 3, 4, 5, 7, 8] rfl)
                            · have h := xt c60 h
                              refine lv_iload hx hb dL_areQuarrelsSo_319 (lv_at hl 6 rfl) ?_
                              refine lv_iconst (v := 2) hx hb dL_areQuarrelsSo_321 (by decide) ?_
                              refine x_j (V := Int32) (nL := 14) (fun v61 => [(0, .ref w), (1, .int (y1 ||| v20)), (2, .int (y2 ||| v25)), (3, .int (y3 + v21)), (4, .int (y4 + v22)), (6, .int y6), (8, .int x6), (10, .int x18)]) 330 (fun v61 => [.int v61]) h (fun v61 h ls hl => ?_) (fun v61 h hj => ?_)
                              · refine lv_aload_n hx hb dL_areQuarrelsSo_330 rfl (lv_at hl 0 rfl) ?_
                                refine lv_iload hx hb dL_areQuarrelsSo_331 (lv_at hl 5 rfl) ?_
                                refine lv_bipush (v := 6) hx hb dL_areQuarrelsSo_333 (by decide) ?_
                                obtain ⟨x62, h63, h⟩ := bE h
                                refine x_RV (As := [.int y6, .int (6 : Int32)]) (rest := [.int v61]) hF (c_X3_quarrel l D cI cZ cT G A w sl o a z1 hs hst ta ca z2 pd sg nm z3 y6 (6 : Int32) x62 h63) (cwV 2 hts (gqV mw_347 mw_348 mw_349 mw_51 mw_271) rfl rfl rfl hd_X3_quarrel ⟨Nat.le_of_ble_eq_true rfl, Nat.le_of_ble_eq_true rfl⟩) hK hP q_E_bl (q_E_go hE hS (fun _ h9 => h9)) [0, 1, 2, 3, 4, 5, 6, 7, 8, 9, 10, 11, 12, 13, 14, 15, 16, 17, 18, 19, 20, 21] rfl rfl rfl rfl hl.1 rfl (Nat.le_of_ble_eq_true rfl) dL_areQuarrelsSo_335 ⟨Nat.zero_le _, Nat.zero_le _⟩ ?_
                                refine x_j (V := Int32) (nL := 14) (fun v64 => [(0, .ref w), (1, .int (y1 ||| v20)), (2, .int (y2 ||| v25)), (3, .int (y3 + v21)), (4, .int (y4 + v22)), (6, .int y6), (8, .int x6), (10, .int x18)]) 346 (fun v64 => [.int v64, .int v61]) h (fun v64 h ls hl => ?_) (fun v64 h hj => ?_)
                                · refine lv_icmp_ne (tgt := 353) hx hb dL_areQuarrelsSo_346 (by decide) (fun c65 => ?_) (fun c65 => ?_)
                                  · have h := xf c65 h
                                    refine lv_iconst (v := 0) hx hb dL_areQuarrelsSo_353 (by decide) ?_
                                    cases h
                                    exact hj _ (lv_sub hl [0, 1, 2, 3, 4, 5, 6, 7] rfl)
                                  · have h := xt c65 h
                                    refine lv_iconst (v := 1) hx hb dL_areQuarrelsSo_349 (by decide) ?_
                                    refine lv_goto (tgt := 354) hx hb dL_areQuarrelsSo_350 (by decide) ?_
                                    cases h
                                    exact hj _ (lv_sub hl [0, 1, 2, 3, 4, 5, 6, 7] rfl)
                                · refine lv_if_lt (tgt := 345) hx hb dL_areQuarrelsSo_338 (by decide) (fun c66 => ?_) (fun c66 => ?_)
                                  · have h := xt c66 h
                                    refine lv_iconst (v := 0) hx hb dL_areQuarrelsSo_345 (by decide) ?_
                                    cases h
                                    exact hj _ (lv_sub hl [0, 1, 2, 3, 4, 5, 6, 7] rfl)
                                  · have h := xf c66 h
                                    refine lv_iconst (v := 1) hx hb dL_areQuarrelsSo_341 (by decide) ?_
                                    refine lv_goto (tgt := 346) hx hb dL_areQuarrelsSo_342 (by decide) ?_
                                    cases h
                                    exact hj _ (lv_sub hl [0, 1, 2, 3, 4, 5, 6, 7] rfl)
                              · refine lv_icmp_ne (tgt := 329) hx hb dL_areQuarrelsSo_322 (by decide) (fun c67 => ?_) (fun c67 => ?_)
                                · have h := xf c67 h
                                  refine lv_iconst (v := 0) hx hb dL_areQuarrelsSo_329 (by decide) ?_
                                  cases h
                                  exact hj _ (lv_sub hl [0, 1, 2, 3, 4, 5, 7, 8] rfl)
                                · have h := xt c67 h
                                  refine lv_iconst (v := 1) hx hb dL_areQuarrelsSo_325 (by decide) ?_
                                  refine lv_goto (tgt := 330) hx hb dL_areQuarrelsSo_326 (by decide) ?_
                                  cases h
                                  exact hj _ (lv_sub hl [0, 1, 2, 3, 4, 5, 7, 8] rfl)
                          · refine lv_if_lt (tgt := 315) hx hb dL_areQuarrelsSo_308 (by decide) (fun c68 => ?_) (fun c68 => ?_)
                            · have h := xt c68 h
                              refine lv_iconst (v := 0) hx hb dL_areQuarrelsSo_315 (by decide) ?_
                              cases h
                              exact hj _ (lv_sub hl [0, 1, 2, 3, 4, 5, 6, 7, 8] rfl)
                            · have h := xf c68 h
                              refine lv_iconst (v := 1) hx hb dL_areQuarrelsSo_311 (by decide) ?_
                              refine lv_goto (tgt := 316) hx hb dL_areQuarrelsSo_312 (by decide) ?_
                              cases h
                              exact hj _ (lv_sub hl [0, 1, 2, 3, 4, 5, 6, 7, 8] rfl)
                        · refine lv_icmp_ne (tgt := 300) hx hb dL_areQuarrelsSo_293 (by decide) (fun c69 => ?_) (fun c69 => ?_)
                          · have h := xf c69 h
                            refine lv_iconst (v := 0) hx hb dL_areQuarrelsSo_300 (by decide) ?_
                            cases h
                            exact hj _ (lv_sub hl [1, 2, 0, 3, 4, 6, 7, 8, 9] rfl)
                          · have h := xt c69 h
                            refine lv_iconst (v := 1) hx hb dL_areQuarrelsSo_296 (by decide) ?_
                            refine lv_goto (tgt := 301) hx hb dL_areQuarrelsSo_297 (by decide) ?_
                            cases h
                            exact hj _ (lv_sub hl [1, 2, 0, 3, 4, 6, 7, 8, 9] rfl)
                · refine lv_if_ne (tgt := 271) hx hb dL_areQuarrelsSo_261 (by decide) (fun c70 => ?_) (fun c70 => ?_)
                  · have h := xf c70 h
                    refine lv_iconst (v := 0) hx hb dL_areQuarrelsSo_271 (by decide) ?_
                    cases h
                    exact hj _ (lv_sub hl [1, 2, 4, 5, 6, 7, 8, 9, 10, 0] rfl)
                  · have h := xt c70 h
                    refine lv_iconst (v := 1) hx hb dL_areQuarrelsSo_264 (by decide) ?_
                    refine lv_iload hx hb dL_areQuarrelsSo_265 (lv_at hl 7 rfl) ?_
                    refine lv_ishl hx hb dL_areQuarrelsSo_267 ?_
                    refine lv_goto (tgt := 272) hx hb dL_areQuarrelsSo_268 (by decide) ?_
                    cases h
                    exact hj _ (lv_sub hl [1, 2, 4, 5, 6, 7, 8, 9, 10, 0] rfl)
              · refine lv_if_eq (tgt := 226) hx hb dL_areQuarrelsSo_219 (by decide) (fun c71 => ?_) (fun c71 => ?_)
                · have h := xt c71 h
                  refine lv_iload hx hb dL_areQuarrelsSo_226 (lv_at hl 8 rfl) ?_
                  refine lv_if_eq (tgt := 235) hx hb dL_areQuarrelsSo_228 (by decide) (fun c72 => ?_) (fun c72 => ?_)
                  · have h := xt c72 h
                    refine lv_aload_n hx hb dL_areQuarrelsSo_235 rfl (lv_at hl 1 rfl) ?_
                    refine lv_iload hx hb dL_areQuarrelsSo_236 (lv_at hl 6 rfl) ?_
                    refine lv_iconst (v := 3) hx hb dL_areQuarrelsSo_238 (by decide) ?_
                    obtain ⟨x73, h74, h⟩ := bE h
                    refine x_RV (As := [.int y6, .int (3 : Int32)]) (rest := []) hF (c_X3_quarrel l D cI cZ cT G A w sl o a z1 hs hst ta ca z2 pd sg nm z3 y6 (3 : Int32) x73 h74) (cwV 2 hts (gqV mw_347 mw_348 mw_349 mw_51 mw_271) rfl rfl rfl hd_X3_quarrel ⟨Nat.le_of_ble_eq_true rfl, Nat.le_of_ble_eq_true rfl⟩) hK hP q_E_bl (q_E_go hE hS (fun _ h9 => h9)) [0, 1, 2, 3, 4, 5, 6, 7, 8, 9, 10, 11, 12, 13, 14, 15, 16, 17, 18, 19, 20, 21] rfl rfl rfl rfl hl.1 rfl (Nat.le_of_ble_eq_true rfl) dL_areQuarrelsSo_239 ⟨Nat.zero_le _, Nat.zero_le _⟩ ?_
                    refine lv_aload_n hx hb dL_areQuarrelsSo_242 rfl (lv_at hl 1 rfl) ?_
                    refine lv_bipush (v := 10) hx hb dL_areQuarrelsSo_243 (by decide) ?_
                    obtain ⟨x75, h76, h⟩ := bE h
                    refine x_RV (As := [.int (10 : Int32)]) (rest := [.int x73]) hF (c_X3_count l D cI cZ cT G A w sl o a z1 hs hst ta ca z2 pd sg nm z3 (10 : Int32) x75 h76) (cwV 1 hts (gqV mw_304 mw_305 mw_306 mw_51 mw_283) rfl rfl rfl hd_X3_count ⟨Nat.le_of_ble_eq_true rfl, Nat.le_of_ble_eq_true rfl⟩) hK hP q_E_bl (q_E_go hE hS (fun _ h9 => h9)) [0, 1, 2, 3, 4, 5, 6, 7, 8, 9, 10, 11, 12, 13, 14, 15, 16, 17, 18, 19, 20, 21] rfl rfl rfl rfl hl.1 rfl (Nat.le_of_ble_eq_true rfl) dL_areQuarrelsSo_245 ⟨Nat.zero_le _, Nat.zero_le _⟩ ?_
                    refine lv_icmp_ge (tgt := 255) hx hb dL_areQuarrelsSo_248 (by decide) (fun c77 => ?_) (fun c77 => ?_)
                    · have h := xt c77 h
                      refine lv_iconst (v := 0) hx hb dL_areQuarrelsSo_255 (by decide) ?_
                      cases h
                      exact hj _ (lv_sub hl [1, 2, 3, 4, 5, 0, 6, 7, 8, 9] rfl)
                    · have h := xf c77 h
                      refine lv_iconst (v := 3) hx hb dL_areQuarrelsSo_251 (by decide) ?_
                      refine lv_goto (tgt := 256) hx hb dL_areQuarrelsSo_252 (by decide) ?_
                      cases h
                      exact hj _ (lv_sub hl [1, 2, 3, 4, 5, 0, 6, 7, 8, 9] rfl)
                  · have h := xf c72 h
                    refine lv_iconst (v := 2) hx hb dL_areQuarrelsSo_231 (by decide) ?_
                    refine lv_goto (tgt := 256) hx hb dL_areQuarrelsSo_232 (by decide) ?_
                    cases h
                    exact hj _ (lv_sub hl [1, 2, 3, 4, 5, 0, 6, 7, 8, 9] rfl)
                · have h := xf c71 h
                  refine lv_iconst (v := 1) hx hb dL_areQuarrelsSo_222 (by decide) ?_
                  refine lv_goto (tgt := 256) hx hb dL_areQuarrelsSo_223 (by decide) ?_
                  cases h
                  exact hj _ (lv_sub hl [1, 2, 3, 4, 5, 0, 6, 7, 8, 9] rfl)
            · refine lv_if_eq (tgt := 214) hx hb dL_areQuarrelsSo_136 (by decide) (fun c78 => ?_) (fun c78 => ?_)
              · have h := xt c78 h
                refine lv_iconst (v := 0) hx hb dL_areQuarrelsSo_214 (by decide) ?_
                cases h
                exact hj _ (lv_sub hl [1, 2, 3, 4, 0, 6, 7, 8, 10] rfl)
              · have h := xf c78 h
                refine lv_iload hx hb dL_areQuarrelsSo_139 (lv_at hl 7 rfl) ?_
                refine lv_if_ne (tgt := 205) hx hb dL_areQuarrelsSo_141 (by decide) (fun c79 => ?_) (fun c79 => ?_)
                · have h := xf c79 h
                  refine lv_iload hx hb dL_areQuarrelsSo_205 (lv_at hl 8 rfl) ?_
                  refine lv_if_ne (tgt := 214) hx hb dL_areQuarrelsSo_207 (by decide) (fun c80 => ?_) (fun c80 => ?_)
                  · have h := xf c80 h
                    refine lv_iconst (v := 0) hx hb dL_areQuarrelsSo_214 (by decide) ?_
                    cases h
                    exact hj _ (lv_sub hl [1, 2, 3, 4, 0, 6, 7, 8, 10] rfl)
                  · have h := xt c80 h
                    refine lv_iconst (v := 1) hx hb dL_areQuarrelsSo_210 (by decide) ?_
                    refine lv_goto (tgt := 215) hx hb dL_areQuarrelsSo_211 (by decide) ?_
                    cases h
                    exact hj _ (lv_sub hl [1, 2, 3, 4, 0, 6, 7, 8, 10] rfl)
                · have h := xt c79 h
                  refine lv_iload hx hb dL_areQuarrelsSo_144 (lv_at hl 8 rfl) ?_
                  refine lv_bipush (v := 15) hx hb dL_areQuarrelsSo_146 (by decide) ?_
                  refine lv_iand hx hb dL_areQuarrelsSo_148 ?_
                  refine lv_iload hx hb dL_areQuarrelsSo_149 (lv_at hl 9 rfl) ?_
                  refine lv_aload_n hx hb dL_areQuarrelsSo_151 rfl (lv_at hl 1 rfl) ?_
                  refine lv_bipush (v := 7) hx hb dL_areQuarrelsSo_152 (by decide) ?_
                  obtain ⟨x81, h82, h⟩ := bE h
                  refine x_RV (As := [.int (7 : Int32)]) (rest := [.int x16, .int (x6 &&& (15 : Int32))]) hF (c_X3_count l D cI cZ cT G A w sl o a z1 hs hst ta ca z2 pd sg nm z3 (7 : Int32) x81 h82) (cwV 1 hts (gqV mw_304 mw_305 mw_306 mw_51 mw_283) rfl rfl rfl hd_X3_count ⟨Nat.le_of_ble_eq_true rfl, Nat.le_of_ble_eq_true rfl⟩) hK hP q_E_bl (q_E_go hE hS (fun _ h9 => h9)) [0, 1, 2, 3, 4, 5, 6, 7, 8, 9, 10, 11, 12, 13, 14, 15, 16, 17, 18, 19, 20, 21] rfl rfl rfl rfl hl.1 rfl (Nat.le_of_ble_eq_true rfl) dL_areQuarrelsSo_154 ⟨Nat.zero_le _, Nat.zero_le _⟩ ?_
                  refine lv_iand hx hb dL_areQuarrelsSo_157 ?_
                  refine lv_bipush (v := 15) hx hb dL_areQuarrelsSo_158 (by decide) ?_
                  refine lv_iand hx hb dL_areQuarrelsSo_160 ?_
                  refine lv_icmp_ne (tgt := 214) hx hb dL_areQuarrelsSo_161 (by decide) (fun c83 => ?_) (fun c83 => ?_)
                  · have h := xf c83 h
                    refine lv_iconst (v := 0) hx hb dL_areQuarrelsSo_214 (by decide) ?_
                    cases h
                    exact hj _ (lv_sub hl [1, 2, 3, 4, 0, 6, 7, 8, 10] rfl)
                  · have h := xt c83 h
                    refine lv_iload hx hb dL_areQuarrelsSo_164 (lv_at hl 8 rfl) ?_
                    refine lv_bipush (v := 16) hx hb dL_areQuarrelsSo_166 (by decide) ?_
                    refine lv_iand hx hb dL_areQuarrelsSo_168 ?_
                    refine lv_iload hx hb dL_areQuarrelsSo_169 (lv_at hl 9 rfl) ?_
                    refine lv_aload_n hx hb dL_areQuarrelsSo_171 rfl (lv_at hl 1 rfl) ?_
                    refine lv_bipush (v := 7) hx hb dL_areQuarrelsSo_172 (by decide) ?_
                    obtain ⟨x84, h85, h⟩ := bE h
                    refine x_RV (As := [.int (7 : Int32)]) (rest := [.int x16, .int (x6 &&& (16 : Int32))]) hF (c_X3_count l D cI cZ cT G A w sl o a z1 hs hst ta ca z2 pd sg nm z3 (7 : Int32) x84 h85) (cwV 1 hts (gqV mw_304 mw_305 mw_306 mw_51 mw_283) rfl rfl rfl hd_X3_count ⟨Nat.le_of_ble_eq_true rfl, Nat.le_of_ble_eq_true rfl⟩) hK hP q_E_bl (q_E_go hE hS (fun _ h9 => h9)) [0, 1, 2, 3, 4, 5, 6, 7, 8, 9, 10, 11, 12, 13, 14, 15, 16, 17, 18, 19, 20, 21] rfl rfl rfl rfl hl.1 rfl (Nat.le_of_ble_eq_true rfl) dL_areQuarrelsSo_174 ⟨Nat.zero_le _, Nat.zero_le _⟩ ?_
                    refine lv_iand hx hb dL_areQuarrelsSo_177 ?_
                    refine lv_bipush (v := 16) hx hb dL_areQuarrelsSo_178 (by decide) ?_
                    refine lv_iand hx hb dL_areQuarrelsSo_180 ?_
                    refine lv_icmp_lt (tgt := 214) hx hb dL_areQuarrelsSo_181 (by decide) (fun c86 => ?_) (fun c86 => ?_)
                    · have h := xt c86 h
                      refine lv_iconst (v := 0) hx hb dL_areQuarrelsSo_214 (by decide) ?_
                      cases h
                      exact hj _ (lv_sub hl [1, 2, 3, 4, 0, 6, 7, 8, 10] rfl)
                    · have h := xf c86 h
                      refine lv_iload hx hb dL_areQuarrelsSo_184 (lv_at hl 8 rfl) ?_
                      refine lv_bipush (v := 16) hx hb dL_areQuarrelsSo_186 (by decide) ?_
                      refine lv_iand hx hb dL_areQuarrelsSo_188 ?_
                      refine lv_bipush (v := 31) hx hb dL_areQuarrelsSo_189 (by decide) ?_
                      refine lv_aload_n hx hb dL_areQuarrelsSo_191 rfl (lv_at hl 1 rfl) ?_
                      refine lv_bipush (v := 7) hx hb dL_areQuarrelsSo_192 (by decide) ?_
                      obtain ⟨x87, h88, h⟩ := bE h
                      refine x_RV (As := [.int (7 : Int32)]) (rest := [.int (31 : Int32), .int (x6 &&& (16 : Int32))]) hF (c_X3_count l D cI cZ cT G A w sl o a z1 hs hst ta ca z2 pd sg nm z3 (7 : Int32) x87 h88) (cwV 1 hts (gqV mw_304 mw_305 mw_306 mw_51 mw_283) rfl rfl rfl hd_X3_count ⟨Nat.le_of_ble_eq_true rfl, Nat.le_of_ble_eq_true rfl⟩) hK hP q_E_bl (q_E_go hE hS (fun _ h9 => h9)) [0, 1, 2, 3, 4, 5, 6, 7, 8, 9, 10, 11, 12, 13, 14, 15, 16, 17, 18, 19, 20, 21] rfl rfl rfl rfl hl.1 rfl (Nat.le_of_ble_eq_true rfl) dL_areQuarrelsSo_194 ⟨Nat.zero_le _, Nat.zero_le _⟩ ?_
                      refine lv_isub hx hb dL_areQuarrelsSo_197 ?_
                      refine lv_iand hx hb dL_areQuarrelsSo_198 ?_
                      refine lv_if_ne (tgt := 214) hx hb dL_areQuarrelsSo_199 (by decide) (fun c89 => ?_) (fun c89 => ?_)
                      · have h := xf c89 h
                        refine lv_iconst (v := 0) hx hb dL_areQuarrelsSo_214 (by decide) ?_
                        cases h
                        exact hj _ (lv_sub hl [1, 2, 3, 4, 0, 6, 7, 8, 10] rfl)
                      · have h := xt c89 h
                        refine lv_goto (tgt := 210) hx hb dL_areQuarrelsSo_202 (by decide) ?_
                        refine lv_iconst (v := 1) hx hb dL_areQuarrelsSo_210 (by decide) ?_
                        refine lv_goto (tgt := 215) hx hb dL_areQuarrelsSo_211 (by decide) ?_
                        cases h
                        exact hj _ (lv_sub hl [1, 2, 3, 4, 0, 6, 7, 8, 10] rfl)
          · refine lv_icmp_ne (tgt := 130) hx hb dL_areQuarrelsSo_123 (by decide) (fun c90 => ?_) (fun c90 => ?_)
            · have h := xf c90 h
              refine lv_iconst (v := 0) hx hb dL_areQuarrelsSo_130 (by decide) ?_
              cases h
              exact hj _ (lv_sub hl [1, 2, 3, 0, 5, 6, 7, 8, 9, 10] rfl)
            · have h := xt c90 h
              refine lv_iconst (v := 1) hx hb dL_areQuarrelsSo_126 (by decide) ?_
              refine lv_goto (tgt := 131) hx hb dL_areQuarrelsSo_127 (by decide) ?_
              cases h
              exact hj _ (lv_sub hl [1, 2, 3, 0, 5, 6, 7, 8, 9, 10] rfl)
        · refine lv_icmp_ne (tgt := 115) hx hb dL_areQuarrelsSo_108 (by decide) (fun c91 => ?_) (fun c91 => ?_)
          · have h := xf c91 h
            refine lv_iconst (v := 0) hx hb dL_areQuarrelsSo_115 (by decide) ?_
            cases h
            exact hj _ (lv_sub hl [1, 0, 2, 4, 5, 6, 7, 8, 9, 10] rfl)
          · have h := xt c91 h
            refine lv_iconst (v := 1) hx hb dL_areQuarrelsSo_111 (by decide) ?_
            refine lv_goto (tgt := 116) hx hb dL_areQuarrelsSo_112 (by decide) ?_
            cases h
            exact hj _ (lv_sub hl [1, 0, 2, 4, 5, 6, 7, 8, 9, 10] rfl)
      · refine lv_if_ne (tgt := 101) hx hb dL_areQuarrelsSo_91 (by decide) (fun c92 => ?_) (fun c92 => ?_)
        · have h := xf c92 h
          refine lv_iconst (v := 0) hx hb dL_areQuarrelsSo_101 (by decide) ?_
          cases h
          exact hj _ (lv_sub hl [4, 6, 7, 8, 9, 10, 3, 2, 1, 0] rfl)
        · have h := xt c92 h
          refine lv_iconst (v := 1) hx hb dL_areQuarrelsSo_94 (by decide) ?_
          refine lv_iload hx hb dL_areQuarrelsSo_95 (lv_at hl 10 rfl) ?_
          refine lv_ishl hx hb dL_areQuarrelsSo_97 ?_
          refine lv_goto (tgt := 102) hx hb dL_areQuarrelsSo_98 (by decide) ?_
          cases h
          exact hj _ (lv_sub hl [4, 6, 7, 8, 9, 10, 3, 2, 1, 0] rfl)
set_option maxHeartbeats 4000000 in
set_option maxRecDepth 100000 in
theorem c_L_areQuarrelsSo (l : Launch) (D : va_G) (cI cZ cT : ClassId) (G : q_G) (A : Nat → Prop) (w sl : Nat) (o a : Nat) (t : TT) (hs hst : Nat) (ta ca : Nat → Nat) (hh : HH) (pd sg nm : Nat) (pp : PP) (r : Int32) (h : f_L_areQuarrelsSo t hh pp = some r) : Met l yL_areQuarrelsSo (wq yL_areQuarrelsSo cL_areQuarrelsSo 14 (some .boolean)) rm_L_areQuarrelsSo (q_R D (q_tys cI cZ cT) ((wX w o hs pd sl) ++ (wT cI o a t) ++ (wH cI cT hs hst ta ca hh) ++ (wPd cI pd sg nm pp)) (q_E G A) [.ref w]) (vp_Si (fun r' => r' = r)) 0 0 (fun _ => False) := by
  refine q_RI (cc := cL_areQuarrelsSo) (maxL := 14) (ret := (some .boolean)) (plainFor_of_name (by decide)) (Nat.le_of_ble_eq_true rfl) (fun p e s m below meth c C0 hP hK hE ls hl => ?_)
  have hE : q_E G A s := hE
  have hS : va_S A s.heap s.heap [] := va_S.rf
  have hl : lv_has ls 14 [(0, .ref w)] := hl
  obtain ⟨hx, hb, hr, hml, hown, hts, hlocks⟩ := id C0
  have hF : CallFix p m c cL_areQuarrelsSo 14 s _ BW RL := ⟨hx, hb, hml, hown, hts⟩
  rw [f_L_areQuarrelsSo] at h
  refine lv_iconst (v := 0) hx hb dL_areQuarrelsSo_0 (by decide) ?_
  refine lv_istore_n (lv' := [(1, .int (0 : Int32)), (0, .ref w)]) hx hb dL_areQuarrelsSo_1 rfl hl (by decide) rfl (fun ls hl => ?_)
  refine lv_iconst (v := 0) hx hb dL_areQuarrelsSo_2 (by decide) ?_
  refine lv_istore_n (lv' := [(2, .int (0 : Int32)), (1, .int (0 : Int32)), (0, .ref w)]) hx hb dL_areQuarrelsSo_3 rfl hl (by decide) rfl (fun ls hl => ?_)
  refine lv_iconst (v := 0) hx hb dL_areQuarrelsSo_4 (by decide) ?_
  refine lv_istore_n (lv' := [(3, .int (0 : Int32)), (2, .int (0 : Int32)), (1, .int (0 : Int32)), (0, .ref w)]) hx hb dL_areQuarrelsSo_5 rfl hl (by decide) rfl (fun ls hl => ?_)
  refine lv_iconst (v := 0) hx hb dL_areQuarrelsSo_6 (by decide) ?_
  refine lv_istore (lv' := [(4, .int (0 : Int32)), (3, .int (0 : Int32)), (2, .int (0 : Int32)), (1, .int (0 : Int32)), (0, .ref w)]) hx hb dL_areQuarrelsSo_7 hl (by decide) rfl (fun ls hl => ?_)
  refine lv_iconst (v := 1) hx hb dL_areQuarrelsSo_9 (by decide) ?_
  refine lv_istore (lv' := [(5, .int (1 : Int32)), (4, .int (0 : Int32)), (3, .int (0 : Int32)), (2, .int (0 : Int32)), (1, .int (0 : Int32)), (0, .ref w)]) hx hb dL_areQuarrelsSo_10 hl (by decide) rfl (fun ls hl => ?_)
  refine lv_iconst (v := 0) hx hb dL_areQuarrelsSo_12 (by decide) ?_
  refine lv_istore (lv' := [(6, .int (0 : Int32)), (5, .int (1 : Int32)), (4, .int (0 : Int32)), (3, .int (0 : Int32)), (2, .int (0 : Int32)), (1, .int (0 : Int32)), (0, .ref w)]) hx hb dL_areQuarrelsSo_13 hl (by decide) rfl (fun ls hl => ?_)
  obtain ⟨v93, h94, h⟩ := bE h
  refine k_L_areQuarrelsSo_L15 (v := v93) w sl o a t hs hst ta ca hh pd sg nm pp hE C0 hK hP (fun ls hl => ?_) 2000 (0 : Int32) (0 : Int32) (0 : Int32) (0 : Int32) (1 : Int32) (0 : Int32) _ (lv_sub hl [6, 5, 4, 3, 2, 1, 0] rfl) h94
  refine lv_iload hx hb dL_areQuarrelsSo_500 (lv_at hl 5 rfl) ?_
  refine lv_if_eq (tgt := 564) hx hb dL_areQuarrelsSo_502 (by decide) (fun c95 => ?_) (fun c95 => ?_)
  · have h := xt c95 h
    refine lv_iconst (v := 0) hx hb dL_areQuarrelsSo_564 (by decide) ?_
    cases h
    exact x_retR C0 rfl dL_areQuarrelsSo_565
  · have h := xf c95 h
    refine lv_iload_n hx hb dL_areQuarrelsSo_505 rfl (lv_at hl 1 rfl) ?_
    refine lv_aload_n hx hb dL_areQuarrelsSo_506 rfl (lv_at hl 0 rfl) ?_
    refine lv_iconst (v := 3) hx hb dL_areQuarrelsSo_507 (by decide) ?_
    obtain ⟨x96, h97, h⟩ := bE h
    refine x_RV (As := [.int (3 : Int32)]) (rest := [.int v93.1]) hF (c_X3_count l D cI cZ cT G A w sl o a t hs hst ta ca hh pd sg nm pp (3 : Int32) x96 h97) (cwV 1 hts (gqV mw_304 mw_305 mw_306 mw_51 mw_283) rfl rfl rfl hd_X3_count ⟨Nat.le_of_ble_eq_true rfl, Nat.le_of_ble_eq_true rfl⟩) hK hP q_E_bl (q_E_go hE hS (fun _ h9 => h9)) [0, 1, 2, 3, 4, 5, 6, 7, 8, 9, 10, 11, 12, 13, 14, 15, 16, 17, 18, 19, 20, 21] rfl rfl rfl rfl hl.1 rfl (Nat.le_of_ble_eq_true rfl) dL_areQuarrelsSo_508 ⟨Nat.zero_le _, Nat.zero_le _⟩ ?_
    refine lv_icmp_ne (tgt := 564) hx hb dL_areQuarrelsSo_511 (by decide) (fun c98 => ?_) (fun c98 => ?_)
    · have h := xf c98 h
      refine lv_iconst (v := 0) hx hb dL_areQuarrelsSo_564 (by decide) ?_
      cases h
      exact x_retR C0 rfl dL_areQuarrelsSo_565
    · have h := xt c98 h
      refine lv_iload_n hx hb dL_areQuarrelsSo_514 rfl (lv_at hl 2 rfl) ?_
      refine lv_aload_n hx hb dL_areQuarrelsSo_515 rfl (lv_at hl 0 rfl) ?_
      refine lv_iconst (v := 4) hx hb dL_areQuarrelsSo_516 (by decide) ?_
      obtain ⟨x99, h100, h⟩ := bE h
      refine x_RV (As := [.int (4 : Int32)]) (rest := [.int v93.2.1]) hF (c_X3_count l D cI cZ cT G A w sl o a t hs hst ta ca hh pd sg nm pp (4 : Int32) x99 h100) (cwV 1 hts (gqV mw_304 mw_305 mw_306 mw_51 mw_283) rfl rfl rfl hd_X3_count ⟨Nat.le_of_ble_eq_true rfl, Nat.le_of_ble_eq_true rfl⟩) hK hP q_E_bl (q_E_go hE hS (fun _ h9 => h9)) [0, 1, 2, 3, 4, 5, 6, 7, 8, 9, 10, 11, 12, 13, 14, 15, 16, 17, 18, 19, 20, 21] rfl rfl rfl rfl hl.1 rfl (Nat.le_of_ble_eq_true rfl) dL_areQuarrelsSo_517 ⟨Nat.zero_le _, Nat.zero_le _⟩ ?_
      refine lv_icmp_ne (tgt := 564) hx hb dL_areQuarrelsSo_520 (by decide) (fun c101 => ?_) (fun c101 => ?_)
      · have h := xf c101 h
        refine lv_iconst (v := 0) hx hb dL_areQuarrelsSo_564 (by decide) ?_
        cases h
        exact x_retR C0 rfl dL_areQuarrelsSo_565
      · have h := xt c101 h
        refine lv_iload_n hx hb dL_areQuarrelsSo_523 rfl (lv_at hl 3 rfl) ?_
        refine lv_aload_n hx hb dL_areQuarrelsSo_524 rfl (lv_at hl 0 rfl) ?_
        refine lv_iconst (v := 5) hx hb dL_areQuarrelsSo_525 (by decide) ?_
        obtain ⟨x102, h103, h⟩ := bE h
        refine x_RV (As := [.int (5 : Int32)]) (rest := [.int v93.2.2.1]) hF (c_X3_count l D cI cZ cT G A w sl o a t hs hst ta ca hh pd sg nm pp (5 : Int32) x102 h103) (cwV 1 hts (gqV mw_304 mw_305 mw_306 mw_51 mw_283) rfl rfl rfl hd_X3_count ⟨Nat.le_of_ble_eq_true rfl, Nat.le_of_ble_eq_true rfl⟩) hK hP q_E_bl (q_E_go hE hS (fun _ h9 => h9)) [0, 1, 2, 3, 4, 5, 6, 7, 8, 9, 10, 11, 12, 13, 14, 15, 16, 17, 18, 19, 20, 21] rfl rfl rfl rfl hl.1 rfl (Nat.le_of_ble_eq_true rfl) dL_areQuarrelsSo_526 ⟨Nat.zero_le _, Nat.zero_le _⟩ ?_
        refine lv_icmp_ne (tgt := 564) hx hb dL_areQuarrelsSo_529 (by decide) (fun c104 => ?_) (fun c104 => ?_)
        · have h := xf c104 h
          refine lv_iconst (v := 0) hx hb dL_areQuarrelsSo_564 (by decide) ?_
          cases h
          exact x_retR C0 rfl dL_areQuarrelsSo_565
        · have h := xt c104 h
          refine lv_iload hx hb dL_areQuarrelsSo_532 (lv_at hl 4 rfl) ?_
          refine lv_aload_n hx hb dL_areQuarrelsSo_534 rfl (lv_at hl 0 rfl) ?_
          refine lv_bipush (v := 6) hx hb dL_areQuarrelsSo_535 (by decide) ?_
          obtain ⟨x105, h106, h⟩ := bE h
          refine x_RV (As := [.int (6 : Int32)]) (rest := [.int v93.2.2.2.1]) hF (c_X3_count l D cI cZ cT G A w sl o a t hs hst ta ca hh pd sg nm pp (6 : Int32) x105 h106) (cwV 1 hts (gqV mw_304 mw_305 mw_306 mw_51 mw_283) rfl rfl rfl hd_X3_count ⟨Nat.le_of_ble_eq_true rfl, Nat.le_of_ble_eq_true rfl⟩) hK hP q_E_bl (q_E_go hE hS (fun _ h9 => h9)) [0, 1, 2, 3, 4, 5, 6, 7, 8, 9, 10, 11, 12, 13, 14, 15, 16, 17, 18, 19, 20, 21] rfl rfl rfl rfl hl.1 rfl (Nat.le_of_ble_eq_true rfl) dL_areQuarrelsSo_537 ⟨Nat.zero_le _, Nat.zero_le _⟩ ?_
          refine lv_icmp_ne (tgt := 564) hx hb dL_areQuarrelsSo_540 (by decide) (fun c107 => ?_) (fun c107 => ?_)
          · have h := xf c107 h
            refine lv_iconst (v := 0) hx hb dL_areQuarrelsSo_564 (by decide) ?_
            cases h
            exact x_retR C0 rfl dL_areQuarrelsSo_565
          · have h := xt c107 h
            refine lv_iload_n hx hb dL_areQuarrelsSo_543 rfl (lv_at hl 1 rfl) ?_
            obtain ⟨x108, h109, h⟩ := bE h
            refine x_RS (As := [.int v93.1]) (rest := []) hF (c_L_bits l D cI cZ cT  v93.1 x108 h109) (va_cwS 1 hts (gqS mw_362 mw_363 mw_309 mw_340) rfl rfl rfl hd_L_bits.2 ⟨Nat.le_of_ble_eq_true rfl, Nat.le_of_ble_eq_true rfl⟩) hK hP q_T_bl (fun _ _ _ => (trivial : True)) [] rfl rfl hl.1 rfl (Nat.le_of_ble_eq_true rfl) dL_areQuarrelsSo_544 ⟨Nat.zero_le _, Nat.zero_le _⟩ ?_
            refine lv_iload_n hx hb dL_areQuarrelsSo_547 rfl (lv_at hl 3 rfl) ?_
            refine lv_iadd hx hb dL_areQuarrelsSo_548 ?_
            refine lv_iload hx hb dL_areQuarrelsSo_549 (lv_at hl 4 rfl) ?_
            refine lv_iadd hx hb dL_areQuarrelsSo_551 ?_
            refine lv_aload_n hx hb dL_areQuarrelsSo_552 rfl (lv_at hl 0 rfl) ?_
            refine lv_iconst (v := 2) hx hb dL_areQuarrelsSo_553 (by decide) ?_
            obtain ⟨x110, h111, h⟩ := bE h
            refine x_RV (As := [.int (2 : Int32)]) (rest := [.int ((x108 + v93.2.2.1) + v93.2.2.2.1)]) hF (c_X3_count l D cI cZ cT G A w sl o a t hs hst ta ca hh pd sg nm pp (2 : Int32) x110 h111) (cwV 1 hts (gqV mw_304 mw_305 mw_306 mw_51 mw_283) rfl rfl rfl hd_X3_count ⟨Nat.le_of_ble_eq_true rfl, Nat.le_of_ble_eq_true rfl⟩) hK hP q_E_bl (q_E_go hE hS (fun _ h9 => h9)) [0, 1, 2, 3, 4, 5, 6, 7, 8, 9, 10, 11, 12, 13, 14, 15, 16, 17, 18, 19, 20, 21] rfl rfl rfl rfl hl.1 rfl (Nat.le_of_ble_eq_true rfl) dL_areQuarrelsSo_554 ⟨Nat.zero_le _, Nat.zero_le _⟩ ?_
            refine lv_icmp_ne (tgt := 564) hx hb dL_areQuarrelsSo_557 (by decide) (fun c112 => ?_) (fun c112 => ?_)
            · have h := xf c112 h
              refine lv_iconst (v := 0) hx hb dL_areQuarrelsSo_564 (by decide) ?_
              cases h
              exact x_retR C0 rfl dL_areQuarrelsSo_565
            · have h := xt c112 h
              refine lv_iconst (v := 1) hx hb dL_areQuarrelsSo_560 (by decide) ?_
              refine lv_goto (tgt := 565) hx hb dL_areQuarrelsSo_561 (by decide) ?_
              cases h
              exact x_retR C0 rfl dL_areQuarrelsSo_565

end G_LD

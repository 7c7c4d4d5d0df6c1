section G_LE
variable {p : Program} {l : Launch} {e : Env} {s : State} {m : MethodId} {args : Array Value} {below : List Frame} {meth : Method} {c : Code} {D : va_G} {cI cZ cT : ClassId}

/-! QuarrelWaysLaw.arePersonsSo (LQuarrelWays;)Z -/
abbrev rm_L_arePersonsSo : Room := { frames := 7, cells := 0, slots := 0, locals := 158 }
theorem hd_L_arePersonsSo : yL_arePersonsSo.cls = RL ∧ yL_arePersonsSo.cls ≠ "java/lang/invoke/MethodHandle" ∧ yL_arePersonsSo.cls ≠ "java/lang/invoke/VarHandle" ∧ (parseMethodDescriptor yL_arePersonsSo.desc).map (fun d => d.parameters.length) = some 1 := by decide +kernel
set_option maxHeartbeats 4000000 in
set_option maxRecDepth 100000 in
theorem k_L_arePersonsSo_L18 {Q : State → Prop} {v : Int32 × Int32 × Int32 × Int32 × Int32 × Int32} (w sl : Nat) (o a : Nat) (z1 : TT) (hs hst : Nat) (ta ca : Nat → Nat) (z2 : HH) (pd sg nm : Nat) (z3 : PP) {G : q_G} {A : Nat → Prop} (hE : q_E G A s) (C0 : q_At p s m args meth c cL_arePersonsSo 13 (some .boolean) RL) (hK : va_K D vwCl (q_tys cI cZ cT) s) (hP : va_P D vwCl ((wX w o hs pd sl) ++ (wT cI o a z1) ++ (wH cI cT hs hst ta ca z2) ++ (wPd cI pd sg nm z3)) s.heap) (hj : ∀ (ls : Array Slot), lv_has ls 13 [(0, .ref w), (1, .int v.1), (2, .int v.2.1), (3, .int v.2.2.1), (4, .int v.2.2.2.1), (5, .int v.2.2.2.2.1), (6, .int v.2.2.2.2.2)] → W p l e rm_L_arePersonsSo s m args below meth c s.heap [] 0 0 Q (F0 m 214 ls [])) : ∀ (n : Nat) (y1 : Int32) (y2 : Int32) (y3 : Int32) (y4 : Int32) (y5 : Int32) (y6 : Int32) (y7 : Int32) (ls : Array Slot), lv_has ls 13 [(0, .ref w), (1, .int y1), (2, .int y2), (3, .int y3), (4, .int y4), (5, .int y5), (6, .int y6), (7, .int y7)] → f_L_arePersonsSo_L18 z1 z2 z3 n y1 y2 y3 y4 y5 y6 y7 = some v → W p l e rm_L_arePersonsSo s m args below meth c s.heap [] 0 0 (Q) (F0 m 18 ls []) := by
  obtain ⟨hx, hb, hr, hml, hown, hts, hlocks⟩ := id C0
  have hF : CallFix p m c cL_arePersonsSo 13 s args BW RL := ⟨hx, hb, hml, hown, hts⟩
  have hS : va_S A s.heap s.heap [] := va_S.rf
  intro n
  induction n with
  | zero =>
    intro y1 y2 y3 y4 y5 y6 y7 ls hl h
    rw [f_L_arePersonsSo_L18] at h
    cases h
  | succ n ih =>
    intro y1 y2 y3 y4 y5 y6 y7 ls hl h
    rw [f_L_arePersonsSo_L18] at h
    refine lv_iload hx hb dL_arePersonsSo_18 (lv_at hl 7 rfl) ?_
    refine lv_aload_n hx hb dL_arePersonsSo_20 rfl (lv_at hl 0 rfl) ?_
    refine lv_iconst (v := 1) hx hb dL_arePersonsSo_21 (by decide) ?_
    obtain ⟨x1, h2, h⟩ := bE h
    refine x_RV (As := [.int (1 : Int32)]) (rest := [.int y7]) hF (c_X3_count l D cI cZ cT G A w sl o a z1 hs hst ta ca z2 pd sg nm z3 (1 : Int32) x1 h2) (cwV 1 hts (gqV mw_304 mw_305 mw_306 mw_51 mw_283) rfl rfl rfl hd_X3_count ⟨Nat.le_of_ble_eq_true rfl, Nat.le_of_ble_eq_true rfl⟩) hK hP q_E_bl (q_E_go hE hS (fun _ h9 => h9)) [0, 1, 2, 3, 4, 5, 6, 7, 8, 9, 10, 11, 12, 13, 14, 15, 16, 17, 18, 19, 20, 21] rfl rfl rfl rfl hl.1 rfl (Nat.le_of_ble_eq_true rfl) dL_arePersonsSo_22 ⟨Nat.zero_le _, Nat.zero_le _⟩ ?_
    refine lv_icmp_ge (tgt := 214) hx hb dL_arePersonsSo_25 (by decide) (fun c3 => ?_) (fun c3 => ?_)
    · have h := xt c3 h
      cases h
      exact hj _ (lv_sub hl [0, 1, 2, 3, 4, 5, 6] rfl)
    · have h := xf c3 h
      refine lv_iload_n hx hb dL_arePersonsSo_28 rfl (lv_at hl 1 rfl) ?_
      refine lv_aload_n hx hb dL_arePersonsSo_29 rfl (lv_at hl 0 rfl) ?_
      refine lv_iload hx hb dL_arePersonsSo_30 (lv_at hl 7 rfl) ?_
      refine lv_iconst (v := 4) hx hb dL_arePersonsSo_32 (by decide) ?_
      obtain ⟨x4, h5, h⟩ := bE h
      refine x_RV (As := [.int y7, .int (4 : Int32)]) (rest := [.int y1]) hF (c_X3_of l D cI cZ cT G A w sl o a z1 hs hst ta ca z2 pd sg nm z3 y7 (4 : Int32) x4 h5) (cwV 2 hts (gqV mw_341 mw_342 mw_343 mw_51 mw_268) rfl rfl rfl hd_X3_of ⟨Nat.le_of_ble_eq_true rfl, Nat.le_of_ble_eq_true rfl⟩) hK hP q_E_bl (q_E_go hE hS (fun _ h9 => h9)) [0, 1, 2, 3, 4, 5, 6, 7, 8, 9, 10, 11, 12, 13, 14, 15, 16, 17, 18, 19, 20, 21] rfl rfl rfl rfl hl.1 rfl (Nat.le_of_ble_eq_true rfl) dL_arePersonsSo_33 ⟨Nat.zero_le _, Nat.zero_le _⟩ ?_
      refine lv_iadd hx hb dL_arePersonsSo_36 ?_
      refine lv_istore_n (lv' := [(1, .int (y1 + x4)), (0, .ref w), (2, .int y2), (3, .int y3), (4, .int y4), (5, .int y5), (6, .int y6), (7, .int y7)]) hx hb dL_arePersonsSo_37 rfl hl (by decide) rfl (fun ls hl => ?_)
      refine lv_iload_n hx hb dL_arePersonsSo_38 rfl (lv_at hl 2 rfl) ?_
      refine lv_aload_n hx hb dL_arePersonsSo_39 rfl (lv_at hl 1 rfl) ?_
      refine lv_iload hx hb dL_arePersonsSo_40 (lv_at hl 7 rfl) ?_
      refine lv_iconst (v := 5) hx hb dL_arePersonsSo_42 (by decide) ?_
      obtain ⟨x6, h7, h⟩ := bE h
      refine x_RV (As := [.int y7, .int (5 : Int32)]) (rest := [.int y2]) hF (c_X3_of l D cI cZ cT G A w sl o a z1 hs hst ta ca z2 pd sg nm z3 y7 (5 : Int32) x6 h7) (cwV 2 hts (gqV mw_341 mw_342 mw_343 mw_51 mw_268) rfl rfl rfl hd_X3_of ⟨Nat.le_of_ble_eq_true rfl, Nat.le_of_ble_eq_true rfl⟩) hK hP q_E_bl (q_E_go hE hS (fun _ h9 => h9)) [0, 1, 2, 3, 4, 5, 6, 7, 8, 9, 10, 11, 12, 13, 14, 15, 16, 17, 18, 19, 20, 21] rfl rfl rfl rfl hl.1 rfl (Nat.le_of_ble_eq_true rfl) dL_arePersonsSo_43 ⟨Nat.zero_le _, Nat.zero_le _⟩ ?_
      refine lv_iadd hx hb dL_arePersonsSo_46 ?_
      refine lv_istore_n (lv' := [(2, .int (y2 + x6)), (1, .int (y1 + x4)), (0, .ref w), (3, .int y3), (4, .int y4), (5, .int y5), (6, .int y6), (7, .int y7)]) hx hb dL_arePersonsSo_47 rfl hl (by decide) rfl (fun ls hl => ?_)
      refine lv_iload_n hx hb dL_arePersonsSo_48 rfl (lv_at hl 3 rfl) ?_
      refine lv_aload_n hx hb dL_arePersonsSo_49 rfl (lv_at hl 2 rfl) ?_
      refine lv_iload hx hb dL_arePersonsSo_50 (lv_at hl 7 rfl) ?_
      refine lv_bipush (v := 6) hx hb dL_arePersonsSo_52 (by decide) ?_
      obtain ⟨x8, h9, h⟩ := bE h
      refine x_RV (As := [.int y7, .int (6 : Int32)]) (rest := [.int y3]) hF (c_X3_of l D cI cZ cT G A w sl o a z1 hs hst ta ca z2 pd sg nm z3 y7 (6 : Int32) x8 h9) (cwV 2 hts (gqV mw_341 mw_342 mw_343 mw_51 mw_268) rfl rfl rfl hd_X3_of ⟨Nat.le_of_ble_eq_true rfl, Nat.le_of_ble_eq_true rfl⟩) hK hP q_E_bl (q_E_go hE hS (fun _ h9 => h9)) [0, 1, 2, 3, 4, 5, 6, 7, 8, 9, 10, 11, 12, 13, 14, 15, 16, 17, 18, 19, 20, 21] rfl rfl rfl rfl hl.1 rfl (Nat.le_of_ble_eq_true rfl) dL_arePersonsSo_54 ⟨Nat.zero_le _, Nat.zero_le _⟩ ?_
      refine lv_iadd hx hb dL_arePersonsSo_57 ?_
      refine lv_istore_n (lv' := [(3, .int (y3 + x8)), (2, .int (y2 + x6)), (1, .int (y1 + x4)), (0, .ref w), (4, .int y4), (5, .int y5), (6, .int y6), (7, .int y7)]) hx hb dL_arePersonsSo_58 rfl hl (by decide) rfl (fun ls hl => ?_)
      refine lv_iload hx hb dL_arePersonsSo_59 (lv_at hl 4 rfl) ?_
      refine lv_aload_n hx hb dL_arePersonsSo_61 rfl (lv_at hl 3 rfl) ?_
      refine lv_iload hx hb dL_arePersonsSo_62 (lv_at hl 7 rfl) ?_
      refine lv_bipush (v := 7) hx hb dL_arePersonsSo_64 (by decide) ?_
      obtain ⟨x10, h11, h⟩ := bE h
      refine x_RV (As := [.int y7, .int (7 : Int32)]) (rest := [.int y4]) hF (c_X3_of l D cI cZ cT G A w sl o a z1 hs hst ta ca z2 pd sg nm z3 y7 (7 : Int32) x10 h11) (cwV 2 hts (gqV mw_341 mw_342 mw_343 mw_51 mw_268) rfl rfl rfl hd_X3_of ⟨Nat.le_of_ble_eq_true rfl, Nat.le_of_ble_eq_true rfl⟩) hK hP q_E_bl (q_E_go hE hS (fun _ h9 => h9)) [0, 1, 2, 3, 4, 5, 6, 7, 8, 9, 10, 11, 12, 13, 14, 15, 16, 17, 18, 19, 20, 21] rfl rfl rfl rfl hl.1 rfl (Nat.le_of_ble_eq_true rfl) dL_arePersonsSo_66 ⟨Nat.zero_le _, Nat.zero_le _⟩ ?_
      refine lv_iadd hx hb dL_arePersonsSo_69 ?_
      refine lv_istore (lv' := [(4, .int (y4 + x10)), (3, .int (y3 + x8)), (2, .int (y2 + x6)), (1, .int (y1 + x4)), (0, .ref w), (5, .int y5), (6, .int y6), (7, .int y7)]) hx hb dL_arePersonsSo_70 hl (by decide) rfl (fun ls hl => ?_)
      refine lv_iload hx hb dL_arePersonsSo_72 (lv_at hl 5 rfl) ?_
      refine lv_aload_n hx hb dL_arePersonsSo_74 rfl (lv_at hl 4 rfl) ?_
      refine lv_iload hx hb dL_arePersonsSo_75 (lv_at hl 7 rfl) ?_
      refine lv_iconst (v := 3) hx hb dL_arePersonsSo_77 (by decide) ?_
      obtain ⟨x12, h13, h⟩ := bE h
      refine x_RV (As := [.int y7, .int (3 : Int32)]) (rest := [.int y5]) hF (c_X3_of l D cI cZ cT G A w sl o a z1 hs hst ta ca z2 pd sg nm z3 y7 (3 : Int32) x12 h13) (cwV 2 hts (gqV mw_341 mw_342 mw_343 mw_51 mw_268) rfl rfl rfl hd_X3_of ⟨Nat.le_of_ble_eq_true rfl, Nat.le_of_ble_eq_true rfl⟩) hK hP q_E_bl (q_E_go hE hS (fun _ h9 => h9)) [0, 1, 2, 3, 4, 5, 6, 7, 8, 9, 10, 11, 12, 13, 14, 15, 16, 17, 18, 19, 20, 21] rfl rfl rfl rfl hl.1 rfl (Nat.le_of_ble_eq_true rfl) dL_arePersonsSo_78 ⟨Nat.zero_le _, Nat.zero_le _⟩ ?_
      refine x_j (V := Int32) (nL := 13) (fun v14 => [(0, .ref w), (1, .int (y1 + x4)), (2, .int (y2 + x6)), (3, .int (y3 + x8)), (4, .int (y4 + x10)), (6, .int y6), (7, .int y7)]) 92 (fun v14 => [.int v14, .int y5]) h (fun v14 h ls hl => ?_) (fun v14 h hj => ?_)
      · refine lv_ior hx hb dL_arePersonsSo_92 ?_
        refine lv_istore (lv' := [(5, .int (y5 ||| v14)), (0, .ref w), (1, .int (y1 + x4)), (2, .int (y2 + x6)), (3, .int (y3 + x8)), (4, .int (y4 + x10)), (6, .int y6), (7, .int y7)]) hx hb dL_arePersonsSo_93 hl (by decide) rfl (fun ls hl => ?_)
        refine lv_aload_n hx hb dL_arePersonsSo_95 rfl (lv_at hl 1 rfl) ?_
        refine lv_iload hx hb dL_arePersonsSo_96 (lv_at hl 7 rfl) ?_
        refine lv_iconst (v := 2) hx hb dL_arePersonsSo_98 (by decide) ?_
        obtain ⟨x15, h16, h⟩ := bE h
        refine x_RV (As := [.int y7, .int (2 : Int32)]) (rest := []) hF (c_X3_of l D cI cZ cT G A w sl o a z1 hs hst ta ca z2 pd sg nm z3 y7 (2 : Int32) x15 h16) (cwV 2 hts (gqV mw_341 mw_342 mw_343 mw_51 mw_268) rfl rfl rfl hd_X3_of ⟨Nat.le_of_ble_eq_true rfl, Nat.le_of_ble_eq_true rfl⟩) hK hP q_E_bl (q_E_go hE hS (fun _ h9 => h9)) [0, 1, 2, 3, 4, 5, 6, 7, 8, 9, 10, 11, 12, 13, 14, 15, 16, 17, 18, 19, 20, 21] rfl rfl rfl rfl hl.1 rfl (Nat.le_of_ble_eq_true rfl) dL_arePersonsSo_99 ⟨Nat.zero_le _, Nat.zero_le _⟩ ?_
        refine lv_istore (lv' := [(8, .int x15), (5, .int (y5 ||| v14)), (0, .ref w), (1, .int (y1 + x4)), (2, .int (y2 + x6)), (3, .int (y3 + x8)), (4, .int (y4 + x10)), (6, .int y6), (7, .int y7)]) hx hb dL_arePersonsSo_102 hl (by decide) rfl (fun ls hl => ?_)
        refine lv_iload hx hb dL_arePersonsSo_104 (lv_at hl 7 rfl) ?_
        refine lv_if_eq (tgt := 205) hx hb dL_arePersonsSo_106 (by decide) (fun c17 => ?_) (fun c17 => ?_)
        · have h := xt c17 h
          refine lv_iconst (v := 0) hx hb dL_arePersonsSo_205 (by decide) ?_
          refine lv_istore (lv' := [(6, .int (0 : Int32)), (8, .int x15), (5, .int (y5 ||| v14)), (0, .ref w), (1, .int (y1 + x4)), (2, .int (y2 + x6)), (3, .int (y3 + x8)), (4, .int (y4 + x10)), (7, .int y7)]) hx hb dL_arePersonsSo_206 hl (by decide) rfl (fun ls hl => ?_)
          refine lv_iinc (v := (y7 + (1 : Int32))) (lv' := [(7, .int (y7 + (1 : Int32))), (6, .int (0 : Int32)), (8, .int x15), (5, .int (y5 ||| v14)), (0, .ref w), (1, .int (y1 + x4)), (2, .int (y2 + x6)), (3, .int (y3 + x8)), (4, .int (y4 + x10))]) hx hb dL_arePersonsSo_208 hl (k := 8) rfl rfl (by decide) rfl (fun ls hl => ?_)
          refine lv_goto (tgt := 18) hx hb dL_arePersonsSo_211 (by decide) ?_
          exact ih (y1 + x4) (y2 + x6) (y3 + x8) (y4 + x10) (y5 ||| v14) (0 : Int32) (y7 + (1 : Int32)) _ (lv_sub hl [4, 5, 6, 7, 8, 3, 1, 0] rfl) h
        · have h := xf c17 h
          refine lv_aload_n hx hb dL_arePersonsSo_109 rfl (lv_at hl 2 rfl) ?_
          refine lv_iload hx hb dL_arePersonsSo_110 (lv_at hl 8 rfl) ?_
          refine lv_iconst (v := 0) hx hb dL_arePersonsSo_112 (by decide) ?_
          obtain ⟨x18, h19, h⟩ := bE h
          refine x_RV (As := [.int y7, .int (0 : Int32)]) (rest := []) hF (c_X3_of l D cI cZ cT G A w sl o a z1 hs hst ta ca z2 pd sg nm z3 y7 (0 : Int32) x18 h19) (cwV 2 hts (gqV mw_341 mw_342 mw_343 mw_51 mw_268) rfl rfl rfl hd_X3_of ⟨Nat.le_of_ble_eq_true rfl, Nat.le_of_ble_eq_true rfl⟩) hK hP q_E_bl (q_E_go hE hS (fun _ h9 => h9)) [0, 1, 2, 3, 4, 5, 6, 7, 8, 9, 10, 11, 12, 13, 14, 15, 16, 17, 18, 19, 20, 21] rfl rfl rfl rfl hl.1 rfl (Nat.le_of_ble_eq_true rfl) dL_arePersonsSo_113 ⟨Nat.zero_le _, Nat.zero_le _⟩ ?_
          refine lv_if_lt (tgt := 205) hx hb dL_arePersonsSo_116 (by decide) (fun c20 => ?_) (fun c20 => ?_)
          · have h := xt c20 h
            refine lv_iconst (v := 0) hx hb dL_arePersonsSo_205 (by decide) ?_
            refine lv_istore (lv' := [(6, .int (0 : Int32)), (8, .int x15), (5, .int (y5 ||| v14)), (0, .ref w), (1, .int (y1 + x4)), (2, .int (y2 + x6)), (3, .int (y3 + x8)), (4, .int (y4 + x10)), (7, .int y7)]) hx hb dL_arePersonsSo_206 hl (by decide) rfl (fun ls hl => ?_)
            refine lv_iinc (v := (y7 + (1 : Int32))) (lv' := [(7, .int (y7 + (1 : Int32))), (6, .int (0 : Int32)), (8, .int x15), (5, .int (y5 ||| v14)), (0, .ref w), (1, .int (y1 + x4)), (2, .int (y2 + x6)), (3, .int (y3 + x8)), (4, .int (y4 + x10))]) hx hb dL_arePersonsSo_208 hl (k := 8) rfl rfl (by decide) rfl (fun ls hl => ?_)
            refine lv_goto (tgt := 18) hx hb dL_arePersonsSo_211 (by decide) ?_
            exact ih (y1 + x4) (y2 + x6) (y3 + x8) (y4 + x10) (y5 ||| v14) (0 : Int32) (y7 + (1 : Int32)) _ (lv_sub hl [4, 5, 6, 7, 8, 3, 1, 0] rfl) h
          · have h := xf c20 h
            refine lv_aload_n hx hb dL_arePersonsSo_119 rfl (lv_at hl 2 rfl) ?_
            refine lv_iload hx hb dL_arePersonsSo_120 (lv_at hl 8 rfl) ?_
            refine lv_iconst (v := 0) hx hb dL_arePersonsSo_122 (by decide) ?_
            obtain ⟨x21, h22, h⟩ := bE h
            refine x_RV (As := [.int y7, .int (0 : Int32)]) (rest := []) hF (c_X3_of l D cI cZ cT G A w sl o a z1 hs hst ta ca z2 pd sg nm z3 y7 (0 : Int32) x21 h22) (cwV 2 hts (gqV mw_341 mw_342 mw_343 mw_51 mw_268) rfl rfl rfl hd_X3_of ⟨Nat.le_of_ble_eq_true rfl, Nat.le_of_ble_eq_true rfl⟩) hK hP q_E_bl (q_E_go hE hS (fun _ h9 => h9)) [0, 1, 2, 3, 4, 5, 6, 7, 8, 9, 10, 11, 12, 13, 14, 15, 16, 17, 18, 19, 20, 21] rfl rfl rfl rfl hl.1 rfl (Nat.le_of_ble_eq_true rfl) dL_arePersonsSo_123 ⟨Nat.zero_le _, Nat.zero_le _⟩ ?_
            refine lv_bipush (v := 10) hx hb dL_arePersonsSo_126 (by decide) ?_
            refine lv_icmp_ge (tgt := 205) hx hb dL_arePersonsSo_128 (by decide) (fun c23 => ?_) (fun c23 => ?_)
            · have h := xt c23 h
              refine lv_iconst (v := 0) hx hb dL_arePersonsSo_205 (by decide) ?_
              refine lv_istore (lv' := [(6, .int (0 : Int32)), (8, .int x15), (5, .int (y5 ||| v14)), (0, .ref w), (1, .int (y1 + x4)), (2, .int (y2 + x6)), (3, .int (y3 + x8)), (4, .int (y4 + x10)), (7, .int y7)]) hx hb dL_arePersonsSo_206 hl (by decide) rfl (fun ls hl => ?_)
              refine lv_iinc (v := (y7 + (1 : Int32))) (lv' := [(7, .int (y7 + (1 : Int32))), (6, .int (0 : Int32)), (8, .int x15), (5, .int (y5 ||| v14)), (0, .ref w), (1, .int (y1 + x4)), (2, .int (y2 + x6)), (3, .int (y3 + x8)), (4, .int (y4 + x10))]) hx hb dL_arePersonsSo_208 hl (k := 8) rfl rfl (by decide) rfl (fun ls hl => ?_)
              refine lv_goto (tgt := 18) hx hb dL_arePersonsSo_211 (by decide) ?_
              exact ih (y1 + x4) (y2 + x6) (y3 + x8) (y4 + x10) (y5 ||| v14) (0 : Int32) (y7 + (1 : Int32)) _ (lv_sub hl [4, 5, 6, 7, 8, 3, 1, 0] rfl) h
            · have h := xf c23 h
              refine lv_aload_n hx hb dL_arePersonsSo_131 rfl (lv_at hl 2 rfl) ?_
              refine lv_iload hx hb dL_arePersonsSo_132 (lv_at hl 8 rfl) ?_
              refine lv_iconst (v := 1) hx hb dL_arePersonsSo_134 (by decide) ?_
              obtain ⟨x24, h25, h⟩ := bE h
              refine x_RV (As := [.int y7, .int (1 : Int32)]) (rest := []) hF (c_X3_of l D cI cZ cT G A w sl o a z1 hs hst ta ca z2 pd sg nm z3 y7 (1 : Int32) x24 h25) (cwV 2 hts (gqV mw_341 mw_342 mw_343 mw_51 mw_268) rfl rfl rfl hd_X3_of ⟨Nat.le_of_ble_eq_true rfl, Nat.le_of_ble_eq_true rfl⟩) hK hP q_E_bl (q_E_go hE hS (fun _ h9 => h9)) [0, 1, 2, 3, 4, 5, 6, 7, 8, 9, 10, 11, 12, 13, 14, 15, 16, 17, 18, 19, 20, 21] rfl rfl rfl rfl hl.1 rfl (Nat.le_of_ble_eq_true rfl) dL_arePersonsSo_135 ⟨Nat.zero_le _, Nat.zero_le _⟩ ?_
              refine lv_if_lt (tgt := 205) hx hb dL_arePersonsSo_138 (by decide) (fun c26 => ?_) (fun c26 => ?_)
              · have h := xt c26 h
                refine lv_iconst (v := 0) hx hb dL_arePersonsSo_205 (by decide) ?_
                refine lv_istore (lv' := [(6, .int (0 : Int32)), (8, .int x15), (5, .int (y5 ||| v14)), (0, .ref w), (1, .int (y1 + x4)), (2, .int (y2 + x6)), (3, .int (y3 + x8)), (4, .int (y4 + x10)), (7, .int y7)]) hx hb dL_arePersonsSo_206 hl (by decide) rfl (fun ls hl => ?_)
                refine lv_iinc (v := (y7 + (1 : Int32))) (lv' := [(7, .int (y7 + (1 : Int32))), (6, .int (0 : Int32)), (8, .int x15), (5, .int (y5 ||| v14)), (0, .ref w), (1, .int (y1 + x4)), (2, .int (y2 + x6)), (3, .int (y3 + x8)), (4, .int (y4 + x10))]) hx hb dL_arePersonsSo_208 hl (k := 8) rfl rfl (by decide) rfl (fun ls hl => ?_)
                refine lv_goto (tgt := 18) hx hb dL_arePersonsSo_211 (by decide) ?_
                exact ih (y1 + x4) (y2 + x6) (y3 + x8) (y4 + x10) (y5 ||| v14) (0 : Int32) (y7 + (1 : Int32)) _ (lv_sub hl [4, 5, 6, 7, 8, 3, 1, 0] rfl) h
              · have h := xf c26 h
                refine lv_aload_n hx hb dL_arePersonsSo_141 rfl (lv_at hl 2 rfl) ?_
                refine lv_iload hx hb dL_arePersonsSo_142 (lv_at hl 8 rfl) ?_
                refine lv_iconst (v := 1) hx hb dL_arePersonsSo_144 (by decide) ?_
                obtain ⟨x27, h28, h⟩ := bE h
                refine x_RV (As := [.int y7, .int (1 : Int32)]) (rest := []) hF (c_X3_of l D cI cZ cT G A w sl o a z1 hs hst ta ca z2 pd sg nm z3 y7 (1 : Int32) x27 h28) (cwV 2 hts (gqV mw_341 mw_342 mw_343 mw_51 mw_268) rfl rfl rfl hd_X3_of ⟨Nat.le_of_ble_eq_true rfl, Nat.le_of_ble_eq_true rfl⟩) hK hP q_E_bl (q_E_go hE hS (fun _ h9 => h9)) [0, 1, 2, 3, 4, 5, 6, 7, 8, 9, 10, 11, 12, 13, 14, 15, 16, 17, 18, 19, 20, 21] rfl rfl rfl rfl hl.1 rfl (Nat.le_of_ble_eq_true rfl) dL_arePersonsSo_145 ⟨Nat.zero_le _, Nat.zero_le _⟩ ?_
                refine lv_bipush (v := 10) hx hb dL_arePersonsSo_148 (by decide) ?_
                refine lv_icmp_ge (tgt := 205) hx hb dL_arePersonsSo_150 (by decide) (fun c29 => ?_) (fun c29 => ?_)
                · have h := xt c29 h
                  refine lv_iconst (v := 0) hx hb dL_arePersonsSo_205 (by decide) ?_
                  refine lv_istore (lv' := [(6, .int (0 : Int32)), (8, .int x15), (5, .int (y5 ||| v14)), (0, .ref w), (1, .int (y1 + x4)), (2, .int (y2 + x6)), (3, .int (y3 + x8)), (4, .int (y4 + x10)), (7, .int y7)]) hx hb dL_arePersonsSo_206 hl (by decide) rfl (fun ls hl => ?_)
                  refine lv_iinc (v := (y7 + (1 : Int32))) (lv' := [(7, .int (y7 + (1 : Int32))), (6, .int (0 : Int32)), (8, .int x15), (5, .int (y5 ||| v14)), (0, .ref w), (1, .int (y1 + x4)), (2, .int (y2 + x6)), (3, .int (y3 + x8)), (4, .int (y4 + x10))]) hx hb dL_arePersonsSo_208 hl (k := 8) rfl rfl (by decide) rfl (fun ls hl => ?_)
                  refine lv_goto (tgt := 18) hx hb dL_arePersonsSo_211 (by decide) ?_
                  exact ih (y1 + x4) (y2 + x6) (y3 + x8) (y4 + x10) (y5 ||| v14) (0 : Int32) (y7 + (1 : Int32)) _ (lv_sub hl [4, 5, 6, 7, 8, 3, 1, 0] rfl) h
                · have h := xf c29 h
                  refine lv_aload_n hx hb dL_arePersonsSo_153 rfl (lv_at hl 2 rfl) ?_
                  refine lv_iload hx hb dL_arePersonsSo_154 (lv_at hl 8 rfl) ?_
                  refine lv_bipush (v := 6) hx hb dL_arePersonsSo_156 (by decide) ?_
                  obtain ⟨x30, h31, h⟩ := bE h
                  refine x_RV (As := [.int y7, .int (6 : Int32)]) (rest := []) hF (c_X3_of l D cI cZ cT G A w sl o a z1 hs hst ta ca z2 pd sg nm z3 y7 (6 : Int32) x30 h31) (cwV 2 hts (gqV mw_341 mw_342 mw_343 mw_51 mw_268) rfl rfl rfl hd_X3_of ⟨Nat.le_of_ble_eq_true rfl, Nat.le_of_ble_eq_true rfl⟩) hK hP q_E_bl (q_E_go hE hS (fun _ h9 => h9)) [0, 1, 2, 3, 4, 5, 6, 7, 8, 9, 10, 11, 12, 13, 14, 15, 16, 17, 18, 19, 20, 21] rfl rfl rfl rfl hl.1 rfl (Nat.le_of_ble_eq_true rfl) dL_arePersonsSo_158 ⟨Nat.zero_le _, Nat.zero_le _⟩ ?_
                  refine lv_aload_n hx hb dL_arePersonsSo_161 rfl (lv_at hl 2 rfl) ?_
                  refine lv_iload hx hb dL_arePersonsSo_162 (lv_at hl 8 rfl) ?_
                  refine lv_bipush (v := 7) hx hb dL_arePersonsSo_164 (by decide) ?_
                  obtain ⟨x32, h33, h⟩ := bE h
                  refine x_RV (As := [.int y7, .int (7 : Int32)]) (rest := [.int x30]) hF (c_X3_of l D cI cZ cT G A w sl o a z1 hs hst ta ca z2 pd sg nm z3 y7 (7 : Int32) x32 h33) (cwV 2 hts (gqV mw_341 mw_342 mw_343 mw_51 mw_268) rfl rfl rfl hd_X3_of ⟨Nat.le_of_ble_eq_true rfl, Nat.le_of_ble_eq_true rfl⟩) hK hP q_E_bl (q_E_go hE hS (fun _ h9 => h9)) [0, 1, 2, 3, 4, 5, 6, 7, 8, 9, 10, 11, 12, 13, 14, 15, 16, 17, 18, 19, 20, 21] rfl rfl rfl rfl hl.1 rfl (Nat.le_of_ble_eq_true rfl) dL_arePersonsSo_166 ⟨Nat.zero_le _, Nat.zero_le _⟩ ?_
                  refine lv_icmp_gt (tgt := 205) hx hb dL_arePersonsSo_169 (by decide) (fun c34 => ?_) (fun c34 => ?_)
                  · have h := xt c34 h
                    refine lv_iconst (v := 0) hx hb dL_arePersonsSo_205 (by decide) ?_
                    refine lv_istore (lv' := [(6, .int (0 : Int32)), (8, .int x15), (5, .int (y5 ||| v14)), (0, .ref w), (1, .int (y1 + x4)), (2, .int (y2 + x6)), (3, .int (y3 + x8)), (4, .int (y4 + x10)), (7, .int y7)]) hx hb dL_arePersonsSo_206 hl (by decide) rfl (fun ls hl => ?_)
                    refine lv_iinc (v := (y7 + (1 : Int32))) (lv' := [(7, .int (y7 + (1 : Int32))), (6, .int (0 : Int32)), (8, .int x15), (5, .int (y5 ||| v14)), (0, .ref w), (1, .int (y1 + x4)), (2, .int (y2 + x6)), (3, .int (y3 + x8)), (4, .int (y4 + x10))]) hx hb dL_arePersonsSo_208 hl (k := 8) rfl rfl (by decide) rfl (fun ls hl => ?_)
                    refine lv_goto (tgt := 18) hx hb dL_arePersonsSo_211 (by decide) ?_
                    exact ih (y1 + x4) (y2 + x6) (y3 + x8) (y4 + x10) (y5 ||| v14) (0 : Int32) (y7 + (1 : Int32)) _ (lv_sub hl [4, 5, 6, 7, 8, 3, 1, 0] rfl) h
                  · have h := xf c34 h
                    refine lv_iload hx hb dL_arePersonsSo_172 (lv_at hl 0 rfl) ?_
                    refine lv_if_lt (tgt := 201) hx hb dL_arePersonsSo_174 (by decide) (fun c35 => ?_) (fun c35 => ?_)
                    · have h := xt c35 h
                      refine lv_iconst (v := 1) hx hb dL_arePersonsSo_201 (by decide) ?_
                      refine lv_goto (tgt := 206) hx hb dL_arePersonsSo_202 (by decide) ?_
                      refine lv_istore (lv' := [(6, .int (1 : Int32)), (8, .int x15), (5, .int (y5 ||| v14)), (0, .ref w), (1, .int (y1 + x4)), (2, .int (y2 + x6)), (3, .int (y3 + x8)), (4, .int (y4 + x10)), (7, .int y7)]) hx hb dL_arePersonsSo_206 hl (by decide) rfl (fun ls hl => ?_)
                      refine lv_iinc (v := (y7 + (1 : Int32))) (lv' := [(7, .int (y7 + (1 : Int32))), (6, .int (1 : Int32)), (8, .int x15), (5, .int (y5 ||| v14)), (0, .ref w), (1, .int (y1 + x4)), (2, .int (y2 + x6)), (3, .int (y3 + x8)), (4, .int (y4 + x10))]) hx hb dL_arePersonsSo_208 hl (k := 8) rfl rfl (by decide) rfl (fun ls hl => ?_)
                      refine lv_goto (tgt := 18) hx hb dL_arePersonsSo_211 (by decide) ?_
                      exact ih (y1 + x4) (y2 + x6) (y3 + x8) (y4 + x10) (y5 ||| v14) (1 : Int32) (y7 + (1 : Int32)) _ (lv_sub hl [4, 5, 6, 7, 8, 3, 1, 0] rfl) h
                    · have h := xf c35 h
                      refine lv_aload_n hx hb dL_arePersonsSo_177 rfl (lv_at hl 2 rfl) ?_
                      refine lv_iload hx hb dL_arePersonsSo_178 (lv_at hl 0 rfl) ?_
                      refine lv_bipush (v := 8) hx hb dL_arePersonsSo_180 (by decide) ?_
                      obtain ⟨x36, h37, h⟩ := bE h
                      refine x_RV (As := [.int x15, .int (8 : Int32)]) (rest := []) hF (c_X3_of l D cI cZ cT G A w sl o a z1 hs hst ta ca z2 pd sg nm z3 x15 (8 : Int32) x36 h37) (cwV 2 hts (gqV mw_341 mw_342 mw_343 mw_51 mw_268) rfl rfl rfl hd_X3_of ⟨Nat.le_of_ble_eq_true rfl, Nat.le_of_ble_eq_true rfl⟩) hK hP q_E_bl (q_E_go hE hS (fun _ h9 => h9)) [0, 1, 2, 3, 4, 5, 6, 7, 8, 9, 10, 11, 12, 13, 14, 15, 16, 17, 18, 19, 20, 21] rfl rfl rfl rfl hl.1 rfl (Nat.le_of_ble_eq_true rfl) dL_arePersonsSo_182 ⟨Nat.zero_le _, Nat.zero_le _⟩ ?_
                      refine lv_iload hx hb dL_arePersonsSo_185 (lv_at hl 8 rfl) ?_
                      refine lv_ishr hx hb dL_arePersonsSo_187 ?_
                      refine lv_iconst (v := 1) hx hb dL_arePersonsSo_188 (by decide) ?_
                      refine lv_iand hx hb dL_arePersonsSo_189 ?_
                      refine lv_iconst (v := 1) hx hb dL_arePersonsSo_190 (by decide) ?_
                      refine lv_icmp_ne (tgt := 205) hx hb dL_arePersonsSo_191 (by decide) (fun c38 => ?_) (fun c38 => ?_)
                      · have h := xf c38 h
                        refine lv_iconst (v := 0) hx hb dL_arePersonsSo_205 (by decide) ?_
                        refine lv_istore (lv' := [(6, .int (0 : Int32)), (8, .int x15), (5, .int (y5 ||| v14)), (0, .ref w), (1, .int (y1 + x4)), (2, .int (y2 + x6)), (3, .int (y3 + x8)), (4, .int (y4 + x10)), (7, .int y7)]) hx hb dL_arePersonsSo_206 hl (by decide) rfl (fun ls hl => ?_)
                        refine lv_iinc (v := (y7 + (1 : Int32))) (lv' := [(7, .int (y7 + (1 : Int32))), (6, .int (0 : Int32)), (8, .int x15), (5, .int (y5 ||| v14)), (0, .ref w), (1, .int (y1 + x4)), (2, .int (y2 + x6)), (3, .int (y3 + x8)), (4, .int (y4 + x10))]) hx hb dL_arePersonsSo_208 hl (k := 8) rfl rfl (by decide) rfl (fun ls hl => ?_)
                        refine lv_goto (tgt := 18) hx hb dL_arePersonsSo_211 (by decide) ?_
                        exact ih (y1 + x4) (y2 + x6) (y3 + x8) (y4 + x10) (y5 ||| v14) (0 : Int32) (y7 + (1 : Int32)) _ (lv_sub hl [4, 5, 6, 7, 8, 3, 1, 0] rfl) h
                      · have h := xt c38 h
                        refine lv_iload hx hb dL_arePersonsSo_194 (lv_at hl 0 rfl) ?_
                        refine lv_iload hx hb dL_arePersonsSo_196 (lv_at hl 8 rfl) ?_
                        refine lv_icmp_eq (tgt := 205) hx hb dL_arePersonsSo_198 (by decide) (fun c39 => ?_) (fun c39 => ?_)
                        · have h := xt c39 h
                          refine lv_iconst (v := 0) hx hb dL_arePersonsSo_205 (by decide) ?_
                          refine lv_istore (lv' := [(6, .int (0 : Int32)), (8, .int x15), (5, .int (y5 ||| v14)), (0, .ref w), (1, .int (y1 + x4)), (2, .int (y2 + x6)), (3, .int (y3 + x8)), (4, .int (y4 + x10)), (7, .int y7)]) hx hb dL_arePersonsSo_206 hl (by decide) rfl (fun ls hl => ?_)
                          refine lv_iinc (v := (y7 + (1 : Int32))) (lv' := [(7, .int (y7 + (1 : Int32))), (6, .int (0 : Int32)), (8, .int x15), (5, .int (y5 ||| v14)), (0, .ref w), (1, .int (y1 + x4)), (2, .int (y2 + x6)), (3, .int (y3 + x8)), (4, .int (y4 + x10))]) hx hb dL_arePersonsSo_208 hl (k := 8) rfl rfl (by decide) rfl (fun ls hl => ?_)
                          refine lv_goto (tgt := 18) hx hb dL_arePersonsSo_211 (by decide) ?_
                          exact ih (y1 + x4) (y2 + x6) (y3 + x8) (y4 + x10) (y5 ||| v14) (0 : Int32) (y7 + (1 : Int32)) _ (lv_sub hl [4, 5, 6, 7, 8, 3, 1, 0] rfl) h
                        · have h := xf c39 h
                          refine lv_iconst (v := 1) hx hb dL_arePersonsSo_201 (by decide) ?_
                          refine lv_goto (tgt := 206) hx hb dL_arePersonsSo_202 (by decide) ?_
                          refine lv_istore (lv' := [(6, .int (1 : Int32)), (8, .int x15), (5, .int (y5 ||| v14)), (0, .ref w), (1, .int (y1 + x4)), (2, .int (y2 + x6)), (3, .int (y3 + x8)), (4, .int (y4 + x10)), (7, .int y7)]) hx hb dL_arePersonsSo_206 hl (by decide) rfl (fun ls hl => ?_)
                          refine lv_iinc (v := (y7 + (1 : Int32))) (lv' := [(7, .int (y7 + (1 : Int32))), (6, .int (1 : Int32)), (8, .int x15), (5, .int (y5 ||| v14)), (0, .ref w), (1, .int (y1 + x4)), (2, .int (y2 + x6)), (3, .int (y3 + x8)), (4, .int (y4 + x10))]) hx hb dL_arePersonsSo_208 hl (k := 8) rfl rfl (by decide) rfl (fun ls hl => ?_)
                          refine lv_goto (tgt := 18) hx hb dL_arePersonsSo_211 (by decide) ?_
                          exact ih (y1 + x4) (y2 + x6) (y3 + x8) (y4 + x10) (y5 ||| v14) (1 : Int32) (y7 + (1 : Int32)) _ (lv_sub hl [4, 5, 6, 7, 8, 3, 1, 0] rfl) h
      · refine lv_if_le (tgt := 91) hx hb dL_arePersonsSo_81 (by decide) (fun c40 => ?_) (fun c40 => ?_)
        · have h := xt c40 h
          refine lv_iconst (v := 0) hx hb dL_arePersonsSo_91 (by decide) ?_
          cases h
          exact hj _ (lv_sub hl [4, 3, 2, 1, 0, 6, 7] rfl)
        · have h := xf c40 h
          refine lv_iconst (v := 1) hx hb dL_arePersonsSo_84 (by decide) ?_
          refine lv_iload hx hb dL_arePersonsSo_85 (lv_at hl 7 rfl) ?_
          refine lv_ishl hx hb dL_arePersonsSo_87 ?_
          refine lv_goto (tgt := 92) hx hb dL_arePersonsSo_88 (by decide) ?_
          cases h
          exact hj _ (lv_sub hl [4, 3, 2, 1, 0, 6, 7] rfl)
set_option maxHeartbeats 4000000 in
set_option maxRecDepth 100000 in
theorem k_L_arePersonsSo_L223 {Q : State → Prop} {v : Int32 × Int32} (w sl : Nat) (o a : Nat) (z1 : TT) (hs hst : Nat) (ta ca : Nat → Nat) (z2 : HH) (pd sg nm : Nat) (z3 : PP) (y1 : Int32) (y2 : Int32) (y3 : Int32) (y4 : Int32) (y5 : Int32) {G : q_G} {A : Nat → Prop} (hE : q_E G A s) (C0 : q_At p s m args meth c cL_arePersonsSo 13 (some .boolean) RL) (hK : va_K D vwCl (q_tys cI cZ cT) s) (hP : va_P D vwCl ((wX w o hs pd sl) ++ (wT cI o a z1) ++ (wH cI cT hs hst ta ca z2) ++ (wPd cI pd sg nm z3)) s.heap) (hj : ∀ (ls : Array Slot), lv_has ls 13 [(0, .ref w), (1, .int y1), (2, .int y2), (3, .int y3), (4, .int y4), (5, .int y5), (6, .int v.1), (8, .int v.2)] → W p l e rm_L_arePersonsSo s m args below meth c s.heap [] 0 0 Q (F0 m 349 ls [])) : ∀ (n : Nat) (y6 : Int32) (y7 : Int32) (y8 : Int32) (y9 : Int32) (ls : Array Slot), lv_has ls 13 [(0, .ref w), (1, .int y1), (2, .int y2), (3, .int y3), (4, .int y4), (5, .int y5), (6, .int y6), (7, .int y7), (8, .int y8), (9, .int y9)] → f_L_arePersonsSo_L223 z1 z2 z3 y1 y2 y3 y4 y5 n y6 y7 y8 y9 = some v → W p l e rm_L_arePersonsSo s m args below meth c s.heap [] 0 0 (Q) (F0 m 223 ls []) := by
  obtain ⟨hx, hb, hr, hml, hown, hts, hlocks⟩ := id C0
  have hF : CallFix p m c cL_arePersonsSo 13 s args BW RL := ⟨hx, hb, hml, hown, hts⟩
  have hS : va_S A s.heap s.heap [] := va_S.rf
  intro n
  induction n with
  | zero =>
    intro y6 y7 y8 y9 ls hl h
    rw [f_L_arePersonsSo_L223] at h
    cases h
  | succ n ih =>
    intro y6 y7 y8 y9 ls hl h
    rw [f_L_arePersonsSo_L223] at h
    refine lv_aload_n hx hb dL_arePersonsSo_223 rfl (lv_at hl 0 rfl) ?_
    refine lv_iload hx hb dL_arePersonsSo_224 (lv_at hl 9 rfl) ?_
    obtain ⟨x43, h44, h⟩ := bE h
    refine x_RV (As := [.int y9]) (rest := []) hF (c_X3_pressing l D cI cZ cT G A w sl o a z1 hs hst ta ca z2 pd sg nm z3 y9 x43 h44) (cwV 1 hts (gqV mw_365 mw_366 mw_367 mw_51 mw_277) rfl rfl rfl hd_X3_pressing ⟨Nat.le_of_ble_eq_true rfl, Nat.le_of_ble_eq_true rfl⟩) hK hP q_E_bl (q_E_go hE hS (fun _ h9 => h9)) [0, 1, 2, 3, 4, 5, 6, 7, 8, 9, 10, 11, 12, 13, 14, 15, 16, 17, 18, 19, 20, 21] rfl rfl rfl rfl hl.1 rfl (Nat.le_of_ble_eq_true rfl) dL_arePersonsSo_226 ⟨Nat.zero_le _, Nat.zero_le _⟩ ?_
    refine lv_if_lt (tgt := 349) hx hb dL_arePersonsSo_229 (by decide) (fun c45 => ?_) (fun c45 => ?_)
    · have h := xt c45 h
      cases h
      exact hj _ (lv_sub hl [0, 1, 2, 3, 4, 5, 6, 8] rfl)
    · have h := xf c45 h
      refine lv_iload hx hb dL_arePersonsSo_232 (lv_at hl 9 rfl) ?_
      refine lv_bipush (v := 12) hx hb dL_arePersonsSo_234 (by decide) ?_
      refine lv_icmp_ge (tgt := 349) hx hb dL_arePersonsSo_236 (by decide) (fun c46 => ?_) (fun c46 => ?_)
      · have h := xt c46 h
        cases h
        exact hj _ (lv_sub hl [0, 1, 2, 3, 4, 5, 6, 8] rfl)
      · have h := xf c46 h
        refine lv_aload_n hx hb dL_arePersonsSo_239 rfl (lv_at hl 0 rfl) ?_
        refine lv_iload hx hb dL_arePersonsSo_240 (lv_at hl 9 rfl) ?_
        obtain ⟨x47, h48, h⟩ := bE h
        refine x_RV (As := [.int y9]) (rest := []) hF (c_X3_pressing l D cI cZ cT G A w sl o a z1 hs hst ta ca z2 pd sg nm z3 y9 x47 h48) (cwV 1 hts (gqV mw_365 mw_366 mw_367 mw_51 mw_277) rfl rfl rfl hd_X3_pressing ⟨Nat.le_of_ble_eq_true rfl, Nat.le_of_ble_eq_true rfl⟩) hK hP q_E_bl (q_E_go hE hS (fun _ h9 => h9)) [0, 1, 2, 3, 4, 5, 6, 7, 8, 9, 10, 11, 12, 13, 14, 15, 16, 17, 18, 19, 20, 21] rfl rfl rfl rfl hl.1 rfl (Nat.le_of_ble_eq_true rfl) dL_arePersonsSo_242 ⟨Nat.zero_le _, Nat.zero_le _⟩ ?_
        refine lv_istore (lv' := [(10, .int x47), (0, .ref w), (1, .int y1), (2, .int y2), (3, .int y3), (4, .int y4), (5, .int y5), (6, .int y6), (7, .int y7), (8, .int y8), (9, .int y9)]) hx hb dL_arePersonsSo_245 hl (by decide) rfl (fun ls hl => ?_)
        refine lv_aload_n hx hb dL_arePersonsSo_247 rfl (lv_at hl 1 rfl) ?_
        refine lv_iload hx hb dL_arePersonsSo_248 (lv_at hl 0 rfl) ?_
        refine lv_iconst (v := 3) hx hb dL_arePersonsSo_250 (by decide) ?_
        obtain ⟨x49, h50, h⟩ := bE h
        refine x_RV (As := [.int x47, .int (3 : Int32)]) (rest := []) hF (c_X3_quarrel l D cI cZ cT G A w sl o a z1 hs hst ta ca z2 pd sg nm z3 x47 (3 : Int32) x49 h50) (cwV 2 hts (gqV mw_347 mw_348 mw_349 mw_51 mw_271) rfl rfl rfl hd_X3_quarrel ⟨Nat.le_of_ble_eq_true rfl, Nat.le_of_ble_eq_true rfl⟩) hK hP q_E_bl (q_E_go hE hS (fun _ h9 => h9)) [0, 1, 2, 3, 4, 5, 6, 7, 8, 9, 10, 11, 12, 13, 14, 15, 16, 17, 18, 19, 20, 21] rfl rfl rfl rfl hl.1 rfl (Nat.le_of_ble_eq_true rfl) dL_arePersonsSo_251 ⟨Nat.zero_le _, Nat.zero_le _⟩ ?_
        refine lv_iconst (v := 1) hx hb dL_arePersonsSo_254 (by decide) ?_
        refine lv_iadd hx hb dL_arePersonsSo_255 ?_
        refine lv_aload_n hx hb dL_arePersonsSo_256 rfl (lv_at hl 1 rfl) ?_
        refine lv_iload hx hb dL_arePersonsSo_257 (lv_at hl 0 rfl) ?_
        refine lv_iconst (v := 2) hx hb dL_arePersonsSo_259 (by decide) ?_
        obtain ⟨x51, h52, h⟩ := bE h
        refine x_RV (As := [.int x47, .int (2 : Int32)]) (rest := [.int (x49 + (1 : Int32))]) hF (c_X3_quarrel l D cI cZ cT G A w sl o a z1 hs hst ta ca z2 pd sg nm z3 x47 (2 : Int32) x51 h52) (cwV 2 hts (gqV mw_347 mw_348 mw_349 mw_51 mw_271) rfl rfl rfl hd_X3_quarrel ⟨Nat.le_of_ble_eq_true rfl, Nat.le_of_ble_eq_true rfl⟩) hK hP q_E_bl (q_E_go hE hS (fun _ h9 => h9)) [0, 1, 2, 3, 4, 5, 6, 7, 8, 9, 10, 11, 12, 13, 14, 15, 16, 17, 18, 19, 20, 21] rfl rfl rfl rfl hl.1 rfl (Nat.le_of_ble_eq_true rfl) dL_arePersonsSo_260 ⟨Nat.zero_le _, Nat.zero_le _⟩ ?_
        refine lv_imul hx hb dL_arePersonsSo_263 ?_
        refine lv_istore (lv' := [(11, .int ((x49 + (1 : Int32)) * x51)), (10, .int x47), (0, .ref w), (1, .int y1), (2, .int y2), (3, .int y3), (4, .int y4), (5, .int y5), (6, .int y6), (7, .int y7), (8, .int y8), (9, .int y9)]) hx hb dL_arePersonsSo_264 hl (by decide) rfl (fun ls hl => ?_)
        refine lv_iload hx hb dL_arePersonsSo_266 (lv_at hl 9 rfl) ?_
        refine x_j (V := Int32) (nL := 13) (fun v53 => [(0, .ref w), (1, .int y1), (2, .int y2), (3, .int y3), (4, .int y4), (5, .int y5), (6, .int y6), (7, .int y7), (8, .int y8), (9, .int y9), (10, .int x47), (11, .int ((x49 + (1 : Int32)) * x51))]) 295 (fun v53 => [.int v53]) h (fun v53 h ls hl => ?_) (fun v53 h hj => ?_)
        · refine lv_istore (lv' := [(12, .int v53), (0, .ref w), (1, .int y1), (2, .int y2), (3, .int y3), (4, .int y4), (5, .int y5), (6, .int y6), (7, .int y7), (8, .int y8), (9, .int y9), (10, .int x47), (11, .int ((x49 + (1 : Int32)) * x51))]) hx hb dL_arePersonsSo_295 hl (by decide) rfl (fun ls hl => ?_)
          refine lv_iload hx hb dL_arePersonsSo_297 (lv_at hl 7 rfl) ?_
          refine x_j (V := Int32) (nL := 13) (fun v54 => [(0, .ref w), (1, .int y1), (2, .int y2), (3, .int y3), (4, .int y4), (5, .int y5), (8, .int y8), (9, .int y9), (10, .int x47)]) 328 (fun v54 => [.int v54]) h (fun v54 h ls hl => ?_) (fun v54 h hj => ?_)
          · refine lv_istore (lv' := [(6, .int v54), (0, .ref w), (1, .int y1), (2, .int y2), (3, .int y3), (4, .int y4), (5, .int y5), (8, .int y8), (9, .int y9), (10, .int x47)]) hx hb dL_arePersonsSo_328 hl (by decide) rfl (fun ls hl => ?_)
            refine lv_iload hx hb dL_arePersonsSo_330 (lv_at hl 7 rfl) ?_
            refine lv_iconst (v := 1) hx hb dL_arePersonsSo_332 (by decide) ?_
            refine lv_iload hx hb dL_arePersonsSo_333 (lv_at hl 9 rfl) ?_
            refine lv_ishl hx hb dL_arePersonsSo_335 ?_
            refine lv_ior hx hb dL_arePersonsSo_336 ?_
            refine lv_istore (lv' := [(8, .int (y8 ||| ((1 : Int32) <<< (x47 &&& 31)))), (6, .int v54), (0, .ref w), (1, .int y1), (2, .int y2), (3, .int y3), (4, .int y4), (5, .int y5), (9, .int y9), (10, .int x47)]) hx hb dL_arePersonsSo_337 hl (by decide) rfl (fun ls hl => ?_)
            refine lv_iload hx hb dL_arePersonsSo_339 (lv_at hl 9 rfl) ?_
            refine lv_istore (lv' := [(7, .int x47), (8, .int (y8 ||| ((1 : Int32) <<< (x47 &&& 31)))), (6, .int v54), (0, .ref w), (1, .int y1), (2, .int y2), (3, .int y3), (4, .int y4), (5, .int y5), (9, .int y9), (10, .int x47)]) hx hb dL_arePersonsSo_341 hl (by decide) rfl (fun ls hl => ?_)
            refine lv_iinc (v := (y9 + (1 : Int32))) (lv' := [(9, .int (y9 + (1 : Int32))), (7, .int x47), (8, .int (y8 ||| ((1 : Int32) <<< (x47 &&& 31)))), (6, .int v54), (0, .ref w), (1, .int y1), (2, .int y2), (3, .int y3), (4, .int y4), (5, .int y5), (10, .int x47)]) hx hb dL_arePersonsSo_343 hl (k := 9) rfl rfl (by decide) rfl (fun ls hl => ?_)
            refine lv_goto (tgt := 223) hx hb dL_arePersonsSo_346 (by decide) ?_
            exact ih v54 x47 (y8 ||| ((1 : Int32) <<< (x47 &&& 31))) (y9 + (1 : Int32)) _ (lv_sub hl [4, 5, 6, 7, 8, 9, 3, 1, 2, 0] rfl) h
          · refine lv_if_eq (tgt := 327) hx hb dL_arePersonsSo_299 (by decide) (fun c55 => ?_) (fun c55 => ?_)
            · have h := xt c55 h
              refine lv_iconst (v := 0) hx hb dL_arePersonsSo_327 (by decide) ?_
              cases h
              exact hj _ (lv_sub hl [1, 2, 3, 4, 5, 6, 9, 10, 11] rfl)
            · have h := xf c55 h
              refine lv_iload hx hb dL_arePersonsSo_302 (lv_at hl 12 rfl) ?_
              refine lv_iload hx hb dL_arePersonsSo_304 (lv_at hl 0 rfl) ?_
              refine lv_icmp_lt (tgt := 323) hx hb dL_arePersonsSo_306 (by decide) (fun c56 => ?_) (fun c56 => ?_)
              · have h := xt c56 h
                refine lv_iconst (v := 1) hx hb dL_arePersonsSo_323 (by decide) ?_
                refine lv_goto (tgt := 328) hx hb dL_arePersonsSo_324 (by decide) ?_
                cases h
                exact hj _ (lv_sub hl [1, 2, 3, 4, 5, 6, 9, 10, 11] rfl)
              · have h := xf c56 h
                refine lv_iload hx hb dL_arePersonsSo_309 (lv_at hl 12 rfl) ?_
                refine lv_iload hx hb dL_arePersonsSo_311 (lv_at hl 0 rfl) ?_
                refine lv_icmp_ne (tgt := 327) hx hb dL_arePersonsSo_313 (by decide) (fun c57 => ?_) (fun c57 => ?_)
                · have h := xf c57 h
                  refine lv_iconst (v := 0) hx hb dL_arePersonsSo_327 (by decide) ?_
                  cases h
                  exact hj _ (lv_sub hl [1, 2, 3, 4, 5, 6, 9, 10, 11] rfl)
                · have h := xt c57 h
                  refine lv_iload hx hb dL_arePersonsSo_316 (lv_at hl 11 rfl) ?_
                  refine lv_iload hx hb dL_arePersonsSo_318 (lv_at hl 8 rfl) ?_
                  refine lv_icmp_le (tgt := 327) hx hb dL_arePersonsSo_320 (by decide) (fun c58 => ?_) (fun c58 => ?_)
                  · have h := xt c58 h
                    refine lv_iconst (v := 0) hx hb dL_arePersonsSo_327 (by decide) ?_
                    cases h
                    exact hj _ (lv_sub hl [1, 2, 3, 4, 5, 6, 9, 10, 11] rfl)
                  · have h := xf c58 h
                    refine lv_iconst (v := 1) hx hb dL_arePersonsSo_323 (by decide) ?_
                    refine lv_goto (tgt := 328) hx hb dL_arePersonsSo_324 (by decide) ?_
                    cases h
                    exact hj _ (lv_sub hl [1, 2, 3, 4, 5, 6, 9, 10, 11] rfl)
        · refine lv_if_ge (tgt := 278) hx hb dL_arePersonsSo_268 (by decide) (fun c59 => ?_) (fun c59 => ?_)
          · have h := xt c59 h
            refine lv_aload_n hx hb dL_arePersonsSo_278 rfl (lv_at hl 2 rfl) ?_
            refine lv_iload hx hb dL_arePersonsSo_279 (lv_at hl 9 rfl) ?_
            refine lv_iconst (v := 3) hx hb dL_arePersonsSo_281 (by decide) ?_
            obtain ⟨x60, h61, h⟩ := bE h
            refine x_RV (As := [.int y7, .int (3 : Int32)]) (rest := []) hF (c_X3_quarrel l D cI cZ cT G A w sl o a z1 hs hst ta ca z2 pd sg nm z3 y7 (3 : Int32) x60 h61) (cwV 2 hts (gqV mw_347 mw_348 mw_349 mw_51 mw_271) rfl rfl rfl hd_X3_quarrel ⟨Nat.le_of_ble_eq_true rfl, Nat.le_of_ble_eq_true rfl⟩) hK hP q_E_bl (q_E_go hE hS (fun _ h9 => h9)) [0, 1, 2, 3, 4, 5, 6, 7, 8, 9, 10, 11, 12, 13, 14, 15, 16, 17, 18, 19, 20, 21] rfl rfl rfl rfl hl.1 rfl (Nat.le_of_ble_eq_true rfl) dL_arePersonsSo_282 ⟨Nat.zero_le _, Nat.zero_le _⟩ ?_
            refine lv_iconst (v := 1) hx hb dL_arePersonsSo_285 (by decide) ?_
            refine lv_iadd hx hb dL_arePersonsSo_286 ?_
            refine lv_aload_n hx hb dL_arePersonsSo_287 rfl (lv_at hl 2 rfl) ?_
            refine lv_iload hx hb dL_arePersonsSo_288 (lv_at hl 9 rfl) ?_
            refine lv_iconst (v := 2) hx hb dL_arePersonsSo_290 (by decide) ?_
            obtain ⟨x62, h63, h⟩ := bE h
            refine x_RV (As := [.int y7, .int (2 : Int32)]) (rest := [.int (x60 + (1 : Int32))]) hF (c_X3_quarrel l D cI cZ cT G A w sl o a z1 hs hst ta ca z2 pd sg nm z3 y7 (2 : Int32) x62 h63) (cwV 2 hts (gqV mw_347 mw_348 mw_349 mw_51 mw_271) rfl rfl rfl hd_X3_quarrel ⟨Nat.le_of_ble_eq_true rfl, Nat.le_of_ble_eq_true rfl⟩) hK hP q_E_bl (q_E_go hE hS (fun _ h9 => h9)) [0, 1, 2, 3, 4, 5, 6, 7, 8, 9, 10, 11, 12, 13, 14, 15, 16, 17, 18, 19, 20, 21] rfl rfl rfl rfl hl.1 rfl (Nat.le_of_ble_eq_true rfl) dL_arePersonsSo_291 ⟨Nat.zero_le _, Nat.zero_le _⟩ ?_
            refine lv_imul hx hb dL_arePersonsSo_294 ?_
            cases h
            exact hj _ (lv_sub hl [2, 3, 4, 5, 6, 7, 8, 9, 10, 11, 1, 0] rfl)
          · have h := xf c59 h
            refine lv_iload hx hb dL_arePersonsSo_271 (lv_at hl 0 rfl) ?_
            refine lv_iconst (v := 1) hx hb dL_arePersonsSo_273 (by decide) ?_
            refine lv_iadd hx hb dL_arePersonsSo_274 ?_
            refine lv_goto (tgt := 295) hx hb dL_arePersonsSo_275 (by decide) ?_
            cases h
            exact hj _ (lv_sub hl [2, 3, 4, 5, 6, 7, 8, 9, 10, 11, 1, 0] rfl)
set_option maxHeartbeats 4000000 in
set_option maxRecDepth 100000 in
theorem k_L_arePersonsSo_L356 {Q : State → Prop} {v : Int32 × Int32} (w sl : Nat) (o a : Nat) (z1 : TT) (hs hst : Nat) (ta ca : Nat → Nat) (z2 : HH) (pd sg nm : Nat) (z3 : PP) (y1 : Int32) (y2 : Int32) (y3 : Int32) (y4 : Int32) (y5 : Int32) (y8 : Int32) {G : q_G} {A : Nat → Prop} (hE : q_E G A s) (C0 : q_At p s m args meth c cL_arePersonsSo 13 (some .boolean) RL) (hK : va_K D vwCl (q_tys cI cZ cT) s) (hP : va_P D vwCl ((wX w o hs pd sl) ++ (wT cI o a z1) ++ (wH cI cT hs hst ta ca z2) ++ (wPd cI pd sg nm z3)) s.heap) (hj : ∀ (ls : Array Slot), lv_has ls 13 [(0, .ref w), (1, .int y1), (2, .int y2), (3, .int y3), (4, .int y4), (5, .int y5), (6, .int v.1), (8, .int y8), (9, .int v.2)] → W p l e rm_L_arePersonsSo s m args below meth c s.heap [] 0 0 Q (F0 m 398 ls [])) : ∀ (n : Nat) (y6 : Int32) (y9 : Int32) (y10 : Int32) (ls : Array Slot), lv_has ls 13 [(0, .ref w), (1, .int y1), (2, .int y2), (3, .int y3), (4, .int y4), (5, .int y5), (6, .int y6), (8, .int y8), (9, .int y9), (10, .int y10)] → f_L_arePersonsSo_L356 z1 z2 z3 y1 y2 y3 y4 y5 y8 n y6 y9 y10 = some v → W p l e rm_L_arePersonsSo s m args below meth c s.heap [] 0 0 (Q) (F0 m 356 ls []) := by
  obtain ⟨hx, hb, hr, hml, hown, hts, hlocks⟩ := id C0
  have hF : CallFix p m c cL_arePersonsSo 13 s args BW RL := ⟨hx, hb, hml, hown, hts⟩
  have hS : va_S A s.heap s.heap [] := va_S.rf
  intro n
  induction n with
  | zero =>
    intro y6 y9 y10 ls hl h
    rw [f_L_arePersonsSo_L356] at h
    cases h
  | succ n ih =>
    intro y6 y9 y10 ls hl h
    rw [f_L_arePersonsSo_L356] at h
    refine lv_iload hx hb dL_arePersonsSo_356 (lv_at hl 9 rfl) ?_
    refine lv_if_le (tgt := 398) hx hb dL_arePersonsSo_358 (by decide) (fun c66 => ?_) (fun c66 => ?_)
    · have h := xt c66 h
      cases h
      exact hj _ (lv_sub hl [0, 1, 2, 3, 4, 5, 6, 7, 8] rfl)
    · have h := xf c66 h
      refine lv_iload hx hb dL_arePersonsSo_361 (lv_at hl 6 rfl) ?_
      refine x_j (V := Int32) (nL := 13) (fun v67 => [(0, .ref w), (1, .int y1), (2, .int y2), (3, .int y3), (4, .int y4), (5, .int y5), (8, .int y8), (10, .int y10)]) 382 (fun v67 => [.int v67]) h (fun v67 h ls hl => ?_) (fun v67 h hj => ?_)
      · refine lv_istore (lv' := [(6, .int v67), (0, .ref w), (1, .int y1), (2, .int y2), (3, .int y3), (4, .int y4), (5, .int y5), (8, .int y8), (10, .int y10)]) hx hb dL_arePersonsSo_382 hl (by decide) rfl (fun ls hl => ?_)
        refine lv_aload_n hx hb dL_arePersonsSo_384 rfl (lv_at hl 1 rfl) ?_
        refine lv_iload hx hb dL_arePersonsSo_385 (lv_at hl 8 rfl) ?_
        obtain ⟨x68, h69, h⟩ := bE h
        refine x_RV (As := [.int y10]) (rest := []) hF (c_X3_insults l D cI cZ cT G A w sl o a z1 hs hst ta ca z2 pd sg nm z3 y10 x68 h69) (cwV 1 hts (gqV mw_368 mw_369 mw_370 mw_51 mw_278) rfl rfl rfl hd_X3_insults ⟨Nat.le_of_ble_eq_true rfl, Nat.le_of_ble_eq_true rfl⟩) hK hP q_E_bl (q_E_go hE hS (fun _ h9 => h9)) [0, 1, 2, 3, 4, 5, 6, 7, 8, 9, 10, 11, 12, 13, 14, 15, 16, 17, 18, 19, 20, 21] rfl rfl rfl rfl hl.1 rfl (Nat.le_of_ble_eq_true rfl) dL_arePersonsSo_387 ⟨Nat.zero_le _, Nat.zero_le _⟩ ?_
        refine lv_istore (lv' := [(9, .int x68), (6, .int v67), (0, .ref w), (1, .int y1), (2, .int y2), (3, .int y3), (4, .int y4), (5, .int y5), (8, .int y8), (10, .int y10)]) hx hb dL_arePersonsSo_390 hl (by decide) rfl (fun ls hl => ?_)
        refine lv_iinc (v := (y10 + (-1 : Int32))) (lv' := [(10, .int (y10 + (-1 : Int32))), (9, .int x68), (6, .int v67), (0, .ref w), (1, .int y1), (2, .int y2), (3, .int y3), (4, .int y4), (5, .int y5), (8, .int y8)]) hx hb dL_arePersonsSo_392 hl (k := 9) rfl rfl (by decide) rfl (fun ls hl => ?_)
        refine lv_goto (tgt := 356) hx hb dL_arePersonsSo_395 (by decide) ?_
        exact ih v67 x68 (y10 + (-1 : Int32)) _ (lv_sub hl [3, 4, 5, 6, 7, 8, 2, 9, 1, 0] rfl) h
      · refine lv_if_eq (tgt := 381) hx hb dL_arePersonsSo_363 (by decide) (fun c70 => ?_) (fun c70 => ?_)
        · have h := xt c70 h
          refine lv_iconst (v := 0) hx hb dL_arePersonsSo_381 (by decide) ?_
          cases h
          exact hj _ (lv_sub hl [0, 1, 2, 3, 4, 5, 7, 9] rfl)
        · have h := xf c70 h
          refine lv_aload_n hx hb dL_arePersonsSo_366 rfl (lv_at hl 0 rfl) ?_
          refine lv_iload hx hb dL_arePersonsSo_367 (lv_at hl 9 rfl) ?_
          obtain ⟨x71, h72, h⟩ := bE h
          refine x_RV (As := [.int y10]) (rest := []) hF (c_X3_insults l D cI cZ cT G A w sl o a z1 hs hst ta ca z2 pd sg nm z3 y10 x71 h72) (cwV 1 hts (gqV mw_368 mw_369 mw_370 mw_51 mw_278) rfl rfl rfl hd_X3_insults ⟨Nat.le_of_ble_eq_true rfl, Nat.le_of_ble_eq_true rfl⟩) hK hP q_E_bl (q_E_go hE hS (fun _ h9 => h9)) [0, 1, 2, 3, 4, 5, 6, 7, 8, 9, 10, 11, 12, 13, 14, 15, 16, 17, 18, 19, 20, 21] rfl rfl rfl rfl hl.1 rfl (Nat.le_of_ble_eq_true rfl) dL_arePersonsSo_369 ⟨Nat.zero_le _, Nat.zero_le _⟩ ?_
          refine lv_iload hx hb dL_arePersonsSo_372 (lv_at hl 8 rfl) ?_
          refine lv_icmp_lt (tgt := 381) hx hb dL_arePersonsSo_374 (by decide) (fun c73 => ?_) (fun c73 => ?_)
          · have h := xt c73 h
            refine lv_iconst (v := 0) hx hb dL_arePersonsSo_381 (by decide) ?_
            cases h
            exact hj _ (lv_sub hl [0, 1, 2, 3, 4, 5, 7, 9] rfl)
          · have h := xf c73 h
            refine lv_iconst (v := 1) hx hb dL_arePersonsSo_377 (by decide) ?_
            refine lv_goto (tgt := 382) hx hb dL_arePersonsSo_378 (by decide) ?_
            cases h
            exact hj _ (lv_sub hl [0, 1, 2, 3, 4, 5, 7, 9] rfl)
set_option maxHeartbeats 4000000 in
set_option maxRecDepth 100000 in
theorem c_L_arePersonsSo (l : Launch) (D : va_G) (cI cZ cT : ClassId) (G : q_G) (A : Nat → Prop) (w sl : Nat) (o a : Nat) (t : TT) (hs hst : Nat) (ta ca : Nat → Nat) (hh : HH) (pd sg nm : Nat) (pp : PP) (r : Int32) (h : f_L_arePersonsSo t hh pp = some r) : Met l yL_arePersonsSo (wq yL_arePersonsSo cL_arePersonsSo 13 (some .boolean)) rm_L_arePersonsSo (q_R D (q_tys cI cZ cT) ((wX w o hs pd sl) ++ (wT cI o a t) ++ (wH cI cT hs hst ta ca hh) ++ (wPd cI pd sg nm pp)) (q_E G A) [.ref w]) (vp_Si (fun r' => r' = r)) 0 0 (fun _ => False) := by
  refine q_RI (cc := cL_arePersonsSo) (maxL := 13) (ret := (some .boolean)) (plainFor_of_name (by decide)) (Nat.le_of_ble_eq_true rfl) (fun p e s m below meth c C0 hP hK hE ls hl => ?_)
  have hE : q_E G A s := hE
  have hS : va_S A s.heap s.heap [] := va_S.rf
  have hl : lv_has ls 13 [(0, .ref w)] := hl
  obtain ⟨hx, hb, hr, hml, hown, hts, hlocks⟩ := id C0
  have hF : CallFix p m c cL_arePersonsSo 13 s _ BW RL := ⟨hx, hb, hml, hown, hts⟩
  rw [f_L_arePersonsSo] at h
  refine lv_iconst (v := 0) hx hb dL_arePersonsSo_0 (by decide) ?_
  refine lv_istore_n (lv' := [(1, .int (0 : Int32)), (0, .ref w)]) hx hb dL_arePersonsSo_1 rfl hl (by decide) rfl (fun ls hl => ?_)
  refine lv_iconst (v := 0) hx hb dL_arePersonsSo_2 (by decide) ?_
  refine lv_istore_n (lv' := [(2, .int (0 : Int32)), (1, .int (0 : Int32)), (0, .ref w)]) hx hb dL_arePersonsSo_3 rfl hl (by decide) rfl (fun ls hl => ?_)
  refine lv_iconst (v := 0) hx hb dL_arePersonsSo_4 (by decide) ?_
  refine lv_istore_n (lv' := [(3, .int (0 : Int32)), (2, .int (0 : Int32)), (1, .int (0 : Int32)), (0, .ref w)]) hx hb dL_arePersonsSo_5 rfl hl (by decide) rfl (fun ls hl => ?_)
  refine lv_iconst (v := 0) hx hb dL_arePersonsSo_6 (by decide) ?_
  refine lv_istore (lv' := [(4, .int (0 : Int32)), (3, .int (0 : Int32)), (2, .int (0 : Int32)), (1, .int (0 : Int32)), (0, .ref w)]) hx hb dL_arePersonsSo_7 hl (by decide) rfl (fun ls hl => ?_)
  refine lv_iconst (v := 0) hx hb dL_arePersonsSo_9 (by decide) ?_
  refine lv_istore (lv' := [(5, .int (0 : Int32)), (4, .int (0 : Int32)), (3, .int (0 : Int32)), (2, .int (0 : Int32)), (1, .int (0 : Int32)), (0, .ref w)]) hx hb dL_arePersonsSo_10 hl (by decide) rfl (fun ls hl => ?_)
  refine lv_iconst (v := 1) hx hb dL_arePersonsSo_12 (by decide) ?_
  refine lv_istore (lv' := [(6, .int (1 : Int32)), (5, .int (0 : Int32)), (4, .int (0 : Int32)), (3, .int (0 : Int32)), (2, .int (0 : Int32)), (1, .int (0 : Int32)), (0, .ref w)]) hx hb dL_arePersonsSo_13 hl (by decide) rfl (fun ls hl => ?_)
  refine lv_iconst (v := 0) hx hb dL_arePersonsSo_15 (by decide) ?_
  refine lv_istore (lv' := [(7, .int (0 : Int32)), (6, .int (1 : Int32)), (5, .int (0 : Int32)), (4, .int (0 : Int32)), (3, .int (0 : Int32)), (2, .int (0 : Int32)), (1, .int (0 : Int32)), (0, .ref w)]) hx hb dL_arePersonsSo_16 hl (by decide) rfl (fun ls hl => ?_)
  obtain ⟨v41, h42, h⟩ := bE h
  refine k_L_arePersonsSo_L18 (v := v41) w sl o a t hs hst ta ca hh pd sg nm pp hE C0 hK hP (fun ls hl => ?_) 2000 (0 : Int32) (0 : Int32) (0 : Int32) (0 : Int32) (0 : Int32) (1 : Int32) (0 : Int32) _ (lv_sub hl [7, 6, 5, 4, 3, 2, 1, 0] rfl) h42
  refine lv_iconst (v := (-1)) hx hb dL_arePersonsSo_214 (by decide) ?_
  refine lv_istore (lv' := [(7, .int (-1 : Int32)), (0, .ref w), (1, .int v41.1), (2, .int v41.2.1), (3, .int v41.2.2.1), (4, .int v41.2.2.2.1), (5, .int v41.2.2.2.2.1), (6, .int v41.2.2.2.2.2)]) hx hb dL_arePersonsSo_215 hl (by decide) rfl (fun ls hl => ?_)
  refine lv_iconst (v := 0) hx hb dL_arePersonsSo_217 (by decide) ?_
  refine lv_istore (lv' := [(8, .int (0 : Int32)), (7, .int (-1 : Int32)), (0, .ref w), (1, .int v41.1), (2, .int v41.2.1), (3, .int v41.2.2.1), (4, .int v41.2.2.2.1), (5, .int v41.2.2.2.2.1), (6, .int v41.2.2.2.2.2)]) hx hb dL_arePersonsSo_218 hl (by decide) rfl (fun ls hl => ?_)
  refine lv_iconst (v := 0) hx hb dL_arePersonsSo_220 (by decide) ?_
  refine lv_istore (lv' := [(9, .int (0 : Int32)), (8, .int (0 : Int32)), (7, .int (-1 : Int32)), (0, .ref w), (1, .int v41.1), (2, .int v41.2.1), (3, .int v41.2.2.1), (4, .int v41.2.2.2.1), (5, .int v41.2.2.2.2.1), (6, .int v41.2.2.2.2.2)]) hx hb dL_arePersonsSo_221 hl (by decide) rfl (fun ls hl => ?_)
  obtain ⟨v64, h65, h⟩ := bE h
  refine k_L_arePersonsSo_L223 (v := v64) w sl o a t hs hst ta ca hh pd sg nm pp v41.1 v41.2.1 v41.2.2.1 v41.2.2.2.1 v41.2.2.2.2.1 hE C0 hK hP (fun ls hl => ?_) 2000 v41.2.2.2.2.2 (-1 : Int32) (0 : Int32) (0 : Int32) _ (lv_sub hl [3, 4, 5, 6, 7, 8, 9, 2, 1, 0] rfl) h65
  refine lv_iconst (v := 0) hx hb dL_arePersonsSo_349 (by decide) ?_
  refine lv_istore (lv' := [(9, .int (0 : Int32)), (0, .ref w), (1, .int v41.1), (2, .int v41.2.1), (3, .int v41.2.2.1), (4, .int v41.2.2.2.1), (5, .int v41.2.2.2.2.1), (6, .int v64.1), (8, .int v64.2)]) hx hb dL_arePersonsSo_350 hl (by decide) rfl (fun ls hl => ?_)
  refine lv_bipush (v := 9) hx hb dL_arePersonsSo_352 (by decide) ?_
  refine lv_istore (lv' := [(10, .int (9 : Int32)), (9, .int (0 : Int32)), (0, .ref w), (1, .int v41.1), (2, .int v41.2.1), (3, .int v41.2.2.1), (4, .int v41.2.2.2.1), (5, .int v41.2.2.2.2.1), (6, .int v64.1), (8, .int v64.2)]) hx hb dL_arePersonsSo_354 hl (by decide) rfl (fun ls hl => ?_)
  obtain ⟨v74, h75, h⟩ := bE h
  refine k_L_arePersonsSo_L356 (v := v74) w sl o a t hs hst ta ca hh pd sg nm pp v41.1 v41.2.1 v41.2.2.1 v41.2.2.2.1 v41.2.2.2.2.1 v64.2 hE C0 hK hP (fun ls hl => ?_) 2000 v64.1 (0 : Int32) (9 : Int32) _ (lv_sub hl [2, 3, 4, 5, 6, 7, 8, 9, 1, 0] rfl) h75
  refine lv_iload hx hb dL_arePersonsSo_398 (lv_at hl 6 rfl) ?_
  refine lv_if_eq (tgt := 466) hx hb dL_arePersonsSo_400 (by decide) (fun c76 => ?_) (fun c76 => ?_)
  · have h := xt c76 h
    refine lv_iconst (v := 0) hx hb dL_arePersonsSo_466 (by decide) ?_
    cases h
    exact x_retR C0 rfl dL_arePersonsSo_467
  · have h := xf c76 h
    refine lv_iload_n hx hb dL_arePersonsSo_403 rfl (lv_at hl 1 rfl) ?_
    refine lv_aload_n hx hb dL_arePersonsSo_404 rfl (lv_at hl 0 rfl) ?_
    refine lv_iconst (v := 2) hx hb dL_arePersonsSo_405 (by decide) ?_
    obtain ⟨x77, h78, h⟩ := bE h
    refine x_RV (As := [.int (2 : Int32)]) (rest := [.int v41.1]) hF (c_X3_count l D cI cZ cT G A w sl o a t hs hst ta ca hh pd sg nm pp (2 : Int32) x77 h78) (cwV 1 hts (gqV mw_304 mw_305 mw_306 mw_51 mw_283) rfl rfl rfl hd_X3_count ⟨Nat.le_of_ble_eq_true rfl, Nat.le_of_ble_eq_true rfl⟩) hK hP q_E_bl (q_E_go hE hS (fun _ h9 => h9)) [0, 1, 2, 3, 4, 5, 6, 7, 8, 9, 10, 11, 12, 13, 14, 15, 16, 17, 18, 19, 20, 21] rfl rfl rfl rfl hl.1 rfl (Nat.le_of_ble_eq_true rfl) dL_arePersonsSo_406 ⟨Nat.zero_le _, Nat.zero_le _⟩ ?_
    refine lv_icmp_ne (tgt := 466) hx hb dL_arePersonsSo_409 (by decide) (fun c79 => ?_) (fun c79 => ?_)
    · have h := xf c79 h
      refine lv_iconst (v := 0) hx hb dL_arePersonsSo_466 (by decide) ?_
      cases h
      exact x_retR C0 rfl dL_arePersonsSo_467
    · have h := xt c79 h
      refine lv_iload_n hx hb dL_arePersonsSo_412 rfl (lv_at hl 2 rfl) ?_
      refine lv_iload_n hx hb dL_arePersonsSo_413 rfl (lv_at hl 1 rfl) ?_
      refine lv_icmp_ne (tgt := 466) hx hb dL_arePersonsSo_414 (by decide) (fun c80 => ?_) (fun c80 => ?_)
      · have h := xf c80 h
        refine lv_iconst (v := 0) hx hb dL_arePersonsSo_466 (by decide) ?_
        cases h
        exact x_retR C0 rfl dL_arePersonsSo_467
      · have h := xt c80 h
        refine lv_iload_n hx hb dL_arePersonsSo_417 rfl (lv_at hl 3 rfl) ?_
        refine lv_aload_n hx hb dL_arePersonsSo_418 rfl (lv_at hl 0 rfl) ?_
        refine lv_bipush (v := 6) hx hb dL_arePersonsSo_419 (by decide) ?_
        obtain ⟨x81, h82, h⟩ := bE h
        refine x_RV (As := [.int (6 : Int32)]) (rest := [.int v41.2.2.1]) hF (c_X3_count l D cI cZ cT G A w sl o a t hs hst ta ca hh pd sg nm pp (6 : Int32) x81 h82) (cwV 1 hts (gqV mw_304 mw_305 mw_306 mw_51 mw_283) rfl rfl rfl hd_X3_count ⟨Nat.le_of_ble_eq_true rfl, Nat.le_of_ble_eq_true rfl⟩) hK hP q_E_bl (q_E_go hE hS (fun _ h9 => h9)) [0, 1, 2, 3, 4, 5, 6, 7, 8, 9, 10, 11, 12, 13, 14, 15, 16, 17, 18, 19, 20, 21] rfl rfl rfl rfl hl.1 rfl (Nat.le_of_ble_eq_true rfl) dL_arePersonsSo_421 ⟨Nat.zero_le _, Nat.zero_le _⟩ ?_
        refine lv_icmp_ne (tgt := 466) hx hb dL_arePersonsSo_424 (by decide) (fun c83 => ?_) (fun c83 => ?_)
        · have h := xf c83 h
          refine lv_iconst (v := 0) hx hb dL_arePersonsSo_466 (by decide) ?_
          cases h
          exact x_retR C0 rfl dL_arePersonsSo_467
        · have h := xt c83 h
          refine lv_iload hx hb dL_arePersonsSo_427 (lv_at hl 4 rfl) ?_
          refine lv_iconst (v := 2) hx hb dL_arePersonsSo_429 (by decide) ?_
          refine lv_iload_n hx hb dL_arePersonsSo_430 rfl (lv_at hl 3 rfl) ?_
          refine lv_imul hx hb dL_arePersonsSo_431 ?_
          refine lv_icmp_ne (tgt := 466) hx hb dL_arePersonsSo_432 (by decide) (fun c84 => ?_) (fun c84 => ?_)
          · have h := xf c84 h
            refine lv_iconst (v := 0) hx hb dL_arePersonsSo_466 (by decide) ?_
            cases h
            exact x_retR C0 rfl dL_arePersonsSo_467
          · have h := xt c84 h
            refine lv_iload hx hb dL_arePersonsSo_435 (lv_at hl 5 rfl) ?_
            refine lv_aload_n hx hb dL_arePersonsSo_437 rfl (lv_at hl 0 rfl) ?_
            refine lv_bipush (v := 8) hx hb dL_arePersonsSo_438 (by decide) ?_
            obtain ⟨x85, h86, h⟩ := bE h
            refine x_RV (As := [.int (8 : Int32)]) (rest := [.int v41.2.2.2.2.1]) hF (c_X3_count l D cI cZ cT G A w sl o a t hs hst ta ca hh pd sg nm pp (8 : Int32) x85 h86) (cwV 1 hts (gqV mw_304 mw_305 mw_306 mw_51 mw_283) rfl rfl rfl hd_X3_count ⟨Nat.le_of_ble_eq_true rfl, Nat.le_of_ble_eq_true rfl⟩) hK hP q_E_bl (q_E_go hE hS (fun _ h9 => h9)) [0, 1, 2, 3, 4, 5, 6, 7, 8, 9, 10, 11, 12, 13, 14, 15, 16, 17, 18, 19, 20, 21] rfl rfl rfl rfl hl.1 rfl (Nat.le_of_ble_eq_true rfl) dL_arePersonsSo_440 ⟨Nat.zero_le _, Nat.zero_le _⟩ ?_
            refine lv_icmp_ne (tgt := 466) hx hb dL_arePersonsSo_443 (by decide) (fun c87 => ?_) (fun c87 => ?_)
            · have h := xf c87 h
              refine lv_iconst (v := 0) hx hb dL_arePersonsSo_466 (by decide) ?_
              cases h
              exact x_retR C0 rfl dL_arePersonsSo_467
            · have h := xt c87 h
              refine lv_iload hx hb dL_arePersonsSo_446 (lv_at hl 7 rfl) ?_
              refine lv_aload_n hx hb dL_arePersonsSo_448 rfl (lv_at hl 0 rfl) ?_
              refine lv_iconst (v := 3) hx hb dL_arePersonsSo_449 (by decide) ?_
              obtain ⟨x88, h89, h⟩ := bE h
              refine x_RV (As := [.int (3 : Int32)]) (rest := [.int v64.2]) hF (c_X3_count l D cI cZ cT G A w sl o a t hs hst ta ca hh pd sg nm pp (3 : Int32) x88 h89) (cwV 1 hts (gqV mw_304 mw_305 mw_306 mw_51 mw_283) rfl rfl rfl hd_X3_count ⟨Nat.le_of_ble_eq_true rfl, Nat.le_of_ble_eq_true rfl⟩) hK hP q_E_bl (q_E_go hE hS (fun _ h9 => h9)) [0, 1, 2, 3, 4, 5, 6, 7, 8, 9, 10, 11, 12, 13, 14, 15, 16, 17, 18, 19, 20, 21] rfl rfl rfl rfl hl.1 rfl (Nat.le_of_ble_eq_true rfl) dL_arePersonsSo_450 ⟨Nat.zero_le _, Nat.zero_le _⟩ ?_
              refine lv_icmp_ne (tgt := 466) hx hb dL_arePersonsSo_453 (by decide) (fun c90 => ?_) (fun c90 => ?_)
              · have h := xf c90 h
                refine lv_iconst (v := 0) hx hb dL_arePersonsSo_466 (by decide) ?_
                cases h
                exact x_retR C0 rfl dL_arePersonsSo_467
              · have h := xt c90 h
                refine lv_iload hx hb dL_arePersonsSo_456 (lv_at hl 8 rfl) ?_
                refine lv_iload_n hx hb dL_arePersonsSo_458 rfl (lv_at hl 1 rfl) ?_
                refine lv_icmp_ne (tgt := 466) hx hb dL_arePersonsSo_459 (by decide) (fun c91 => ?_) (fun c91 => ?_)
                · have h := xf c91 h
                  refine lv_iconst (v := 0) hx hb dL_arePersonsSo_466 (by decide) ?_
                  cases h
                  exact x_retR C0 rfl dL_arePersonsSo_467
                · have h := xt c91 h
                  refine lv_iconst (v := 1) hx hb dL_arePersonsSo_462 (by decide) ?_
                  refine lv_goto (tgt := 467) hx hb dL_arePersonsSo_463 (by decide) ?_
                  cases h
                  exact x_retR C0 rfl dL_arePersonsSo_467

end G_LE

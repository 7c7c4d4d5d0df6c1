section G_T2
variable {p : Program} {l : Launch} {e : Env} {s : State} {m : MethodId} {args : Array Value} {below : List Frame} {meth : Method} {c : Code} {D : va_G} {cI cZ cT : ClassId}

/-! QuarrelWays.Town.waysBetween (IIII)I -/
def f_X2_waysBetween (t : TT) (a1 : Int32) (a2 : Int32) (a3 : Int32) (a4 : Int32) : Option (Int32) := ((f_X2_read t (4 : Int32) a1).bind fun x1 => (((if (9 : Int32) < (x1 + a3) then some (0 : Int32) else some ((0 : Int32) ||| (1 : Int32))) : Option (Int32)).bind fun v3 => ((f_X2_secondsCanSettle t a1 a2 a3).bind fun x4 => (((if x4 = 0 then some v3 else some (v3 ||| (2 : Int32))) : Option (Int32)).bind fun v6 => ((f_X2_hoursToCool t a3).bind fun x7 => (((if a4 < x7 then some v6 else some (v6 ||| (4 : Int32))) : Option (Int32)).bind fun v9 => ((f_X2_oathLeft t a1).bind fun x10 => (((if 0 < x10 then some (v9 ||| (8 : Int32)) else ((f_X2_oathLeft t a2).bind fun x18 => (if x18 ≤ 0 then some v9 else some (v9 ||| (8 : Int32))))) : Option (Int32)).bind fun v12 => ((f_X2_peaceLeft t a1 a2).bind fun x13 => (((if x13 < 0 then some v12 else some (v12 ||| (16 : Int32))) : Option (Int32)).bind fun v15 => some (v15 &&& t.2.1)))))))))))
abbrev rm_X2_waysBetween : Room := { frames := 2, cells := 0, slots := 0, locals := 48 }
theorem hd_X2_waysBetween : yX2_waysBetween.cls = RX2 ∧ yX2_waysBetween.cls ≠ "java/lang/invoke/MethodHandle" ∧ yX2_waysBetween.cls ≠ "java/lang/invoke/VarHandle" ∧ (parseMethodDescriptor yX2_waysBetween.desc).map (fun d => d.parameters.length) = some 4 := by decide +kernel
set_option maxHeartbeats 4000000 in
set_option maxRecDepth 100000 in
theorem c_X2_waysBetween (l : Launch) (D : va_G) (cI cZ cT : ClassId) (o a : Nat) (t : TT) (a1 : Int32) (a2 : Int32) (a3 : Int32) (a4 : Int32) (r : Int32) (h : f_X2_waysBetween t a1 a2 a3 a4 = some r) : Met l yX2_waysBetween (wq yX2_waysBetween cX2_waysBetween 6 (some .int)) rm_X2_waysBetween (q_R D (q_tys cI cZ cT) (wT cI o a t) q_T [.ref o, .int a1, .int a2, .int a3, .int a4]) (vp_Si (fun r' => r' = r)) 0 0 (fun _ => False) := by
  refine q_RI (cc := cX2_waysBetween) (maxL := 6) (ret := (some .int)) (plainFor_of_name (by decide)) (Nat.le_of_ble_eq_true rfl) (fun p e s m below meth c C0 hP hK hE ls hl => ?_)
  have hl : lv_has ls 6 [(0, .ref o), (1, .int a1), (2, .int a2), (3, .int a3), (4, .int a4)] := hl
  obtain ⟨hx, hb, hr, hml, hown, hts, hlocks⟩ := id C0
  have hF : CallFix p m c cX2_waysBetween 6 s _ BW RX2 := ⟨hx, hb, hml, hown, hts⟩
  rw [f_X2_waysBetween] at h
  refine lv_iconst (v := 0) hx hb dX2_waysBetween_0 (by decide) ?_
  refine lv_istore (lv' := [(5, .int (0 : Int32)), (0, .ref o), (1, .int a1), (2, .int a2), (3, .int a3), (4, .int a4)]) hx hb dX2_waysBetween_1 hl (by decide) rfl (fun ls hl => ?_)
  refine lv_aload_n hx hb dX2_waysBetween_3 rfl (lv_at hl 1 rfl) ?_
  refine lv_iconst (v := 4) hx hb dX2_waysBetween_4 (by decide) ?_
  refine lv_iload_n hx hb dX2_waysBetween_5 rfl (lv_at hl 2 rfl) ?_
  obtain ⟨x1, h2, h⟩ := bE h
  refine x_RV (As := [.int (4 : Int32), .int a1]) (rest := []) hF (c_X2_read l D cI cZ cT o a t (4 : Int32) a1 x1 h2) (cwV 2 hts (gqV mw_65 mw_66 mw_67 mw_15 mw_61) rfl rfl rfl hd_X2_read ⟨Nat.le_of_ble_eq_true rfl, Nat.le_of_ble_eq_true rfl⟩) hK hP q_T_bl (fun _ _ _ => trivial) [0, 1] rfl rfl rfl rfl hl.1 rfl (Nat.le_of_ble_eq_true rfl) dX2_waysBetween_6 ⟨Nat.zero_le _, Nat.zero_le _⟩ ?_
  refine lv_iload_n hx hb dX2_waysBetween_9 rfl (lv_at hl 4 rfl) ?_
  refine lv_iadd hx hb dX2_waysBetween_10 ?_
  refine lv_bipush (v := 9) hx hb dX2_waysBetween_11 (by decide) ?_
  refine x_j (V := Int32) (nL := 6) (fun v3 => [(0, .ref o), (1, .int a1), (2, .int a2), (3, .int a3), (4, .int a4), (5, .int v3)]) 22 (fun v3 => []) h (fun v3 h ls hl => ?_) (fun v3 h hj => ?_)
  · refine lv_aload_n hx hb dX2_waysBetween_22 rfl (lv_at hl 0 rfl) ?_
    refine lv_iload_n hx hb dX2_waysBetween_23 rfl (lv_at hl 1 rfl) ?_
    refine lv_iload_n hx hb dX2_waysBetween_24 rfl (lv_at hl 2 rfl) ?_
    refine lv_iload_n hx hb dX2_waysBetween_25 rfl (lv_at hl 3 rfl) ?_
    obtain ⟨x4, h5, h⟩ := bE h
    refine x_RV (As := [.int a1, .int a2, .int a3]) (rest := []) hF (c_X2_secondsCanSettle l D cI cZ cT o a t a1 a2 a3 x4 h5) (cwV 3 hts (gqV mw_112 mw_113 mw_114 mw_15 mw_109) rfl rfl rfl hd_X2_secondsCanSettle ⟨Nat.le_of_ble_eq_true rfl, Nat.le_of_ble_eq_true rfl⟩) hK hP q_T_bl (fun _ _ _ => trivial) [0, 1] rfl rfl rfl rfl hl.1 rfl (Nat.le_of_ble_eq_true rfl) dX2_waysBetween_26 ⟨Nat.zero_le _, Nat.zero_le _⟩ ?_
    refine x_j (V := Int32) (nL := 6) (fun v6 => [(0, .ref o), (1, .int a1), (2, .int a2), (3, .int a3), (4, .int a4), (5, .int v6)]) 38 (fun v6 => []) h (fun v6 h ls hl => ?_) (fun v6 h hj => ?_)
    · refine lv_iload hx hb dX2_waysBetween_38 (lv_at hl 4 rfl) ?_
      refine lv_aload_n hx hb dX2_waysBetween_40 rfl (lv_at hl 0 rfl) ?_
      refine lv_iload_n hx hb dX2_waysBetween_41 rfl (lv_at hl 3 rfl) ?_
      obtain ⟨x7, h8, h⟩ := bE h
      refine x_RV (As := [.int a3]) (rest := [.int a4]) hF (c_X2_hoursToCool l D cI cZ cT o a t a3 x7 h8) (cwV 1 hts (gqV mw_115 mw_116 mw_117 mw_15 mw_110) rfl rfl rfl hd_X2_hoursToCool ⟨Nat.le_of_ble_eq_true rfl, Nat.le_of_ble_eq_true rfl⟩) hK hP q_T_bl (fun _ _ _ => trivial) [0, 1] rfl rfl rfl rfl hl.1 rfl (Nat.le_of_ble_eq_true rfl) dX2_waysBetween_42 ⟨Nat.zero_le _, Nat.zero_le _⟩ ?_
      refine x_j (V := Int32) (nL := 6) (fun v9 => [(0, .ref o), (1, .int a1), (2, .int a2), (5, .int v9)]) 54 (fun v9 => []) h (fun v9 h ls hl => ?_) (fun v9 h hj => ?_)
      · refine lv_aload_n hx hb dX2_waysBetween_54 rfl (lv_at hl 0 rfl) ?_
        refine lv_iload_n hx hb dX2_waysBetween_55 rfl (lv_at hl 1 rfl) ?_
        obtain ⟨x10, h11, h⟩ := bE h
        refine x_RV (As := [.int a1]) (rest := []) hF (c_X2_oathLeft l D cI cZ cT o a t a1 x10 h11) (cwV 1 hts (gqV mw_118 mw_119 mw_120 mw_15 mw_70) rfl rfl rfl hd_X2_oathLeft ⟨Nat.le_of_ble_eq_true rfl, Nat.le_of_ble_eq_true rfl⟩) hK hP q_T_bl (fun _ _ _ => trivial) [0, 1] rfl rfl rfl rfl hl.1 rfl (Nat.le_of_ble_eq_true rfl) dX2_waysBetween_56 ⟨Nat.zero_le _, Nat.zero_le _⟩ ?_
        refine x_j (V := Int32) (nL := 6) (fun v12 => [(0, .ref o), (1, .int a1), (2, .int a2), (5, .int v12)]) 77 (fun v12 => []) h (fun v12 h ls hl => ?_) (fun v12 h hj => ?_)
        · refine lv_aload_n hx hb dX2_waysBetween_77 rfl (lv_at hl 0 rfl) ?_
          refine lv_iload_n hx hb dX2_waysBetween_78 rfl (lv_at hl 1 rfl) ?_
          refine lv_iload_n hx hb dX2_waysBetween_79 rfl (lv_at hl 2 rfl) ?_
          obtain ⟨x13, h14, h⟩ := bE h
          refine x_RV (As := [.int a1, .int a2]) (rest := []) hF (c_X2_peaceLeft l D cI cZ cT o a t a1 a2 x13 h14) (cwV 2 hts (gqV mw_121 mw_122 mw_123 mw_15 mw_111) rfl rfl rfl hd_X2_peaceLeft ⟨Nat.le_of_ble_eq_true rfl, Nat.le_of_ble_eq_true rfl⟩) hK hP q_T_bl (fun _ _ _ => trivial) [0, 1] rfl rfl rfl rfl hl.1 rfl (Nat.le_of_ble_eq_true rfl) dX2_waysBetween_80 ⟨Nat.zero_le _, Nat.zero_le _⟩ ?_
          refine x_j (V := Int32) (nL := 6) (fun v15 => [(0, .ref o), (5, .int v15)]) 93 (fun v15 => []) h (fun v15 h ls hl => ?_) (fun v15 h hj => ?_)
          · refine lv_iload hx hb dX2_waysBetween_93 (lv_at hl 1 rfl) ?_
            refine lv_aload_n hx hb dX2_waysBetween_95 rfl (lv_at hl 0 rfl) ?_
            refine va_get (D := D) (v := .int t.2.1) (C := RX2) (T := TX2) (N := 6) hx hb hts iw_X2 hown hK hP 0 rfl rfl 1 (by decide) (hts _ mw_7) (fun _ h9 => h9) rfl dX2_waysBetween_96 ?_
            refine lv_iand hx hb dX2_waysBetween_99 ?_
            cases h
            exact x_retR C0 rfl dX2_waysBetween_100
          · refine lv_if_lt (tgt := 93) hx hb dX2_waysBetween_83 (by decide) (fun c16 => ?_) (fun c16 => ?_)
            · have h := xt c16 h
              cases h
              exact hj _ (lv_sub hl [0, 3] rfl)
            · have h := xf c16 h
              refine lv_iload hx hb dX2_waysBetween_86 (lv_at hl 3 rfl) ?_
              refine lv_bipush (v := 16) hx hb dX2_waysBetween_88 (by decide) ?_
              refine lv_ior hx hb dX2_waysBetween_90 ?_
              refine lv_istore (lv' := [(5, .int (v12 ||| (16 : Int32))), (0, .ref o), (1, .int a1), (2, .int a2)]) hx hb dX2_waysBetween_91 hl (by decide) rfl (fun ls hl => ?_)
              cases h
              exact hj _ (lv_sub hl [1, 0] rfl)
        · refine lv_if_gt (tgt := 70) hx hb dX2_waysBetween_59 (by decide) (fun c17 => ?_) (fun c17 => ?_)
          · have h := xt c17 h
            refine lv_iload hx hb dX2_waysBetween_70 (lv_at hl 3 rfl) ?_
            refine lv_bipush (v := 8) hx hb dX2_waysBetween_72 (by decide) ?_
            refine lv_ior hx hb dX2_waysBetween_74 ?_
            refine lv_istore (lv' := [(5, .int (v9 ||| (8 : Int32))), (0, .ref o), (1, .int a1), (2, .int a2)]) hx hb dX2_waysBetween_75 hl (by decide) rfl (fun ls hl => ?_)
            cases h
            exact hj _ (lv_sub hl [1, 2, 3, 0] rfl)
          · have h := xf c17 h
            refine lv_aload_n hx hb dX2_waysBetween_62 rfl (lv_at hl 0 rfl) ?_
            refine lv_iload_n hx hb dX2_waysBetween_63 rfl (lv_at hl 2 rfl) ?_
            obtain ⟨x18, h19, h⟩ := bE h
            refine x_RV (As := [.int a2]) (rest := []) hF (c_X2_oathLeft l D cI cZ cT o a t a2 x18 h19) (cwV 1 hts (gqV mw_118 mw_119 mw_120 mw_15 mw_70) rfl rfl rfl hd_X2_oathLeft ⟨Nat.le_of_ble_eq_true rfl, Nat.le_of_ble_eq_true rfl⟩) hK hP q_T_bl (fun _ _ _ => trivial) [0, 1] rfl rfl rfl rfl hl.1 rfl (Nat.le_of_ble_eq_true rfl) dX2_waysBetween_64 ⟨Nat.zero_le _, Nat.zero_le _⟩ ?_
            refine lv_if_le (tgt := 77) hx hb dX2_waysBetween_67 (by decide) (fun c20 => ?_) (fun c20 => ?_)
            · have h := xt c20 h
              cases h
              exact hj _ (lv_sub hl [0, 1, 2, 3] rfl)
            · have h := xf c20 h
              refine lv_iload hx hb dX2_waysBetween_70 (lv_at hl 3 rfl) ?_
              refine lv_bipush (v := 8) hx hb dX2_waysBetween_72 (by decide) ?_
              refine lv_ior hx hb dX2_waysBetween_74 ?_
              refine lv_istore (lv' := [(5, .int (v9 ||| (8 : Int32))), (0, .ref o), (1, .int a1), (2, .int a2)]) hx hb dX2_waysBetween_75 hl (by decide) rfl (fun ls hl => ?_)
              cases h
              exact hj _ (lv_sub hl [1, 2, 3, 0] rfl)
      · refine lv_icmp_lt (tgt := 54) hx hb dX2_waysBetween_45 (by decide) (fun c21 => ?_) (fun c21 => ?_)
        · have h := xt c21 h
          cases h
          exact hj _ (lv_sub hl [0, 1, 2, 5] rfl)
        · have h := xf c21 h
          refine lv_iload hx hb dX2_waysBetween_48 (lv_at hl 5 rfl) ?_
          refine lv_iconst (v := 4) hx hb dX2_waysBetween_50 (by decide) ?_
          refine lv_ior hx hb dX2_waysBetween_51 ?_
          refine lv_istore (lv' := [(5, .int (v6 ||| (4 : Int32))), (0, .ref o), (1, .int a1), (2, .int a2), (3, .int a3), (4, .int a4)]) hx hb dX2_waysBetween_52 hl (by decide) rfl (fun ls hl => ?_)
          cases h
          exact hj _ (lv_sub hl [1, 2, 3, 0] rfl)
    · refine lv_if_eq (tgt := 38) hx hb dX2_waysBetween_29 (by decide) (fun c22 => ?_) (fun c22 => ?_)
      · have h := xt c22 h
        cases h
        exact hj _ (lv_sub hl [0, 1, 2, 3, 4, 5] rfl)
      · have h := xf c22 h
        refine lv_iload hx hb dX2_waysBetween_32 (lv_at hl 5 rfl) ?_
        refine lv_iconst (v := 2) hx hb dX2_waysBetween_34 (by decide) ?_
        refine lv_ior hx hb dX2_waysBetween_35 ?_
        refine lv_istore (lv' := [(5, .int (v3 ||| (2 : Int32))), (0, .ref o), (1, .int a1), (2, .int a2), (3, .int a3), (4, .int a4)]) hx hb dX2_waysBetween_36 hl (by decide) rfl (fun ls hl => ?_)
        cases h
        exact hj _ (lv_sub hl [1, 2, 3, 4, 5, 0] rfl)
  · refine lv_icmp_gt (tgt := 22) hx hb dX2_waysBetween_13 (by decide) (fun c23 => ?_) (fun c23 => ?_)
    · have h := xt c23 h
      cases h
      exact hj _ (lv_sub hl [1, 2, 3, 4, 5, 0] rfl)
    · have h := xf c23 h
      refine lv_iload hx hb dX2_waysBetween_16 (lv_at hl 0 rfl) ?_
      refine lv_iconst (v := 1) hx hb dX2_waysBetween_18 (by decide) ?_
      refine lv_ior hx hb dX2_waysBetween_19 ?_
      refine lv_istore (lv' := [(5, .int ((0 : Int32) ||| (1 : Int32))), (0, .ref o), (1, .int a1), (2, .int a2), (3, .int a3), (4, .int a4)]) hx hb dX2_waysBetween_20 hl (by decide) rfl (fun ls hl => ?_)
      cases h
      exact hj _ (lv_sub hl [1, 2, 3, 4, 5, 0] rfl)

/-! QuarrelWays.Town.waysOf (I)I -/
def f_X2_waysOf (t : TT) (a1 : Int32) : Option (Int32) := ((f_X2_isOpen t a1).bind fun x1 => (if x1 = 0 then some (0 : Int32) else ((f_X2_read t (44 : Int32) a1).bind fun x4 => ((f_X2_read t (56 : Int32) a1).bind fun x6 => ((f_X2_read t (68 : Int32) a1).bind fun x8 => ((f_X2_hoursSince t a1).bind fun x10 => ((f_X2_waysBetween t x4 x6 x8 x10).bind fun x12 => some x12)))))))
abbrev rm_X2_waysOf : Room := { frames := 3, cells := 0, slots := 0, locals := 73 }
theorem hd_X2_waysOf : yX2_waysOf.cls = RX2 ∧ yX2_waysOf.cls ≠ "java/lang/invoke/MethodHandle" ∧ yX2_waysOf.cls ≠ "java/lang/invoke/VarHandle" ∧ (parseMethodDescriptor yX2_waysOf.desc).map (fun d => d.parameters.length) = some 1 := by decide +kernel
set_option maxHeartbeats 4000000 in
set_option maxRecDepth 100000 in
theorem c_X2_waysOf (l : Launch) (D : va_G) (cI cZ cT : ClassId) (o a : Nat) (t : TT) (a1 : Int32) (r : Int32) (h : f_X2_waysOf t a1 = some r) : Met l yX2_waysOf (wq yX2_waysOf cX2_waysOf 2 (some .int)) rm_X2_waysOf (q_R D (q_tys cI cZ cT) (wT cI o a t) q_T [.ref o, .int a1]) (vp_Si (fun r' => r' = r)) 0 0 (fun _ => False) := by
  refine q_RI (cc := cX2_waysOf) (maxL := 2) (ret := (some .int)) (plainFor_of_name (by decide)) (Nat.le_of_ble_eq_true rfl) (fun p e s m below meth c C0 hP hK hE ls hl => ?_)
  have hl : lv_has ls 2 [(0, .ref o), (1, .int a1)] := hl
  obtain ⟨hx, hb, hr, hml, hown, hts, hlocks⟩ := id C0
  have hF : CallFix p m c cX2_waysOf 2 s _ BW RX2 := ⟨hx, hb, hml, hown, hts⟩
  rw [f_X2_waysOf] at h
  refine lv_aload_n hx hb dX2_waysOf_0 rfl (lv_at hl 0 rfl) ?_
  refine lv_iload_n hx hb dX2_waysOf_1 rfl (lv_at hl 1 rfl) ?_
  obtain ⟨x1, h2, h⟩ := bE h
  refine x_RV (As := [.int a1]) (rest := []) hF (c_X2_isOpen l D cI cZ cT o a t a1 x1 h2) (cwV 1 hts (gqV mw_92 mw_93 mw_94 mw_15 mw_64) rfl rfl rfl hd_X2_isOpen ⟨Nat.le_of_ble_eq_true rfl, Nat.le_of_ble_eq_true rfl⟩) hK hP q_T_bl (fun _ _ _ => trivial) [0, 1] rfl rfl rfl rfl hl.1 rfl (Nat.le_of_ble_eq_true rfl) dX2_waysOf_2 ⟨Nat.zero_le _, Nat.zero_le _⟩ ?_
  refine lv_if_ne (tgt := 10) hx hb dX2_waysOf_5 (by decide) (fun c3 => ?_) (fun c3 => ?_)
  · have h := xf c3 h
    refine lv_aload_n hx hb dX2_waysOf_10 rfl (lv_at hl 0 rfl) ?_
    refine lv_aload_n hx hb dX2_waysOf_11 rfl (lv_at hl 0 rfl) ?_
    refine lv_bipush (v := 44) hx hb dX2_waysOf_12 (by decide) ?_
    refine lv_iload_n hx hb dX2_waysOf_14 rfl (lv_at hl 1 rfl) ?_
    obtain ⟨x4, h5, h⟩ := bE h
    refine x_RV (As := [.int (44 : Int32), .int a1]) (rest := [.ref o]) hF (c_X2_read l D cI cZ cT o a t (44 : Int32) a1 x4 h5) (cwV 2 hts (gqV mw_65 mw_66 mw_67 mw_15 mw_61) rfl rfl rfl hd_X2_read ⟨Nat.le_of_ble_eq_true rfl, Nat.le_of_ble_eq_true rfl⟩) hK hP q_T_bl (fun _ _ _ => trivial) [0, 1] rfl rfl rfl rfl hl.1 rfl (Nat.le_of_ble_eq_true rfl) dX2_waysOf_15 ⟨Nat.zero_le _, Nat.zero_le _⟩ ?_
    refine lv_aload_n hx hb dX2_waysOf_18 rfl (lv_at hl 0 rfl) ?_
    refine lv_bipush (v := 56) hx hb dX2_waysOf_19 (by decide) ?_
    refine lv_iload_n hx hb dX2_waysOf_21 rfl (lv_at hl 1 rfl) ?_
    obtain ⟨x6, h7, h⟩ := bE h
    refine x_RV (As := [.int (56 : Int32), .int a1]) (rest := [.int x4, .ref o]) hF (c_X2_read l D cI cZ cT o a t (56 : Int32) a1 x6 h7) (cwV 2 hts (gqV mw_65 mw_66 mw_67 mw_15 mw_61) rfl rfl rfl hd_X2_read ⟨Nat.le_of_ble_eq_true rfl, Nat.le_of_ble_eq_true rfl⟩) hK hP q_T_bl (fun _ _ _ => trivial) [0, 1] rfl rfl rfl rfl hl.1 rfl (Nat.le_of_ble_eq_true rfl) dX2_waysOf_22 ⟨Nat.zero_le _, Nat.zero_le _⟩ ?_
    refine lv_aload_n hx hb dX2_waysOf_25 rfl (lv_at hl 0 rfl) ?_
    refine lv_bipush (v := 68) hx hb dX2_waysOf_26 (by decide) ?_
    refine lv_iload_n hx hb dX2_waysOf_28 rfl (lv_at hl 1 rfl) ?_
    obtain ⟨x8, h9, h⟩ := bE h
    refine x_RV (As := [.int (68 : Int32), .int a1]) (rest := [.int x6, .int x4, .ref o]) hF (c_X2_read l D cI cZ cT o a t (68 : Int32) a1 x8 h9) (cwV 2 hts (gqV mw_65 mw_66 mw_67 mw_15 mw_61) rfl rfl rfl hd_X2_read ⟨Nat.le_of_ble_eq_true rfl, Nat.le_of_ble_eq_true rfl⟩) hK hP q_T_bl (fun _ _ _ => trivial) [0, 1] rfl rfl rfl rfl hl.1 rfl (Nat.le_of_ble_eq_true rfl) dX2_waysOf_29 ⟨Nat.zero_le _, Nat.zero_le _⟩ ?_
    refine lv_aload_n hx hb dX2_waysOf_32 rfl (lv_at hl 0 rfl) ?_
    refine lv_iload_n hx hb dX2_waysOf_33 rfl (lv_at hl 1 rfl) ?_
    obtain ⟨x10, h11, h⟩ := bE h
    refine x_RV (As := [.int a1]) (rest := [.int x8, .int x6, .int x4, .ref o]) hF (c_X2_hoursSince l D cI cZ cT o a t a1 x10 h11) (cwV 1 hts (gqV mw_125 mw_126 mw_127 mw_15 mw_69) rfl rfl rfl hd_X2_hoursSince ⟨Nat.le_of_ble_eq_true rfl, Nat.le_of_ble_eq_true rfl⟩) hK hP q_T_bl (fun _ _ _ => trivial) [0, 1] rfl rfl rfl rfl hl.1 rfl (Nat.le_of_ble_eq_true rfl) dX2_waysOf_34 ⟨Nat.zero_le _, Nat.zero_le _⟩ ?_
    obtain ⟨x12, h13, h⟩ := bE h
    refine x_RV (As := [.int x4, .int x6, .int x8, .int x10]) (rest := []) hF (c_X2_waysBetween l D cI cZ cT o a t x4 x6 x8 x10 x12 h13) (cwV 4 hts (gqV mw_128 mw_129 mw_130 mw_15 mw_124) rfl rfl rfl hd_X2_waysBetween ⟨Nat.le_of_ble_eq_true rfl, Nat.le_of_ble_eq_true rfl⟩) hK hP q_T_bl (fun _ _ _ => trivial) [0, 1] rfl rfl rfl rfl hl.1 rfl (Nat.le_of_ble_eq_true rfl) dX2_waysOf_37 ⟨Nat.zero_le _, Nat.zero_le _⟩ ?_
    cases h
    exact x_retR C0 rfl dX2_waysOf_40
  · have h := xt c3 h
    refine lv_iconst (v := 0) hx hb dX2_waysOf_8 (by decide) ?_
    cases h
    exact x_retR C0 rfl dX2_waysOf_9

/-! QuarrelWays.Town.whyNotDue (II)I -/
def f_X2_whyNotDue (t : TT) (a1 : Int32) (a2 : Int32) : Option (Int32) := ((f_X2_isOpen t a1).bind fun x1 => (if x1 = 0 then some (1 : Int32) else (if a2 = 0 then ((f_X2_hoursSince t a1).bind fun x5 => ((f_X2_read t (0 : Int32) (1 : Int32)).bind fun x7 => (if x7 ≤ x5 then some (0 : Int32) else some (3 : Int32)))) else some (2 : Int32))))
abbrev rm_X2_whyNotDue : Room := { frames := 2, cells := 0, slots := 0, locals := 44 }
theorem hd_X2_whyNotDue : yX2_whyNotDue.cls = RX2 ∧ yX2_whyNotDue.cls ≠ "java/lang/invoke/MethodHandle" ∧ yX2_whyNotDue.cls ≠ "java/lang/invoke/VarHandle" ∧ (parseMethodDescriptor yX2_whyNotDue.desc).map (fun d => d.parameters.length) = some 2 := by decide +kernel
set_option maxHeartbeats 4000000 in
set_option maxRecDepth 100000 in
theorem c_X2_whyNotDue (l : Launch) (D : va_G) (cI cZ cT : ClassId) (o a : Nat) (t : TT) (a1 : Int32) (a2 : Int32) (r : Int32) (h : f_X2_whyNotDue t a1 a2 = some r) : Met l yX2_whyNotDue (wq yX2_whyNotDue cX2_whyNotDue 3 (some .int)) rm_X2_whyNotDue (q_R D (q_tys cI cZ cT) (wT cI o a t) q_T [.ref o, .int a1, .int a2]) (vp_Si (fun r' => r' = r)) 0 0 (fun _ => False) := by
  refine q_RI (cc := cX2_whyNotDue) (maxL := 3) (ret := (some .int)) (plainFor_of_name (by decide)) (Nat.le_of_ble_eq_true rfl) (fun p e s m below meth c C0 hP hK hE ls hl => ?_)
  have hl : lv_has ls 3 [(0, .ref o), (1, .int a1), (2, .int a2)] := hl
  obtain ⟨hx, hb, hr, hml, hown, hts, hlocks⟩ := id C0
  have hF : CallFix p m c cX2_whyNotDue 3 s _ BW RX2 := ⟨hx, hb, hml, hown, hts⟩
  rw [f_X2_whyNotDue] at h
  refine lv_aload_n hx hb dX2_whyNotDue_0 rfl (lv_at hl 0 rfl) ?_
  refine lv_iload_n hx hb dX2_whyNotDue_1 rfl (lv_at hl 1 rfl) ?_
  obtain ⟨x1, h2, h⟩ := bE h
  refine x_RV (As := [.int a1]) (rest := []) hF (c_X2_isOpen l D cI cZ cT o a t a1 x1 h2) (cwV 1 hts (gqV mw_92 mw_93 mw_94 mw_15 mw_64) rfl rfl rfl hd_X2_isOpen ⟨Nat.le_of_ble_eq_true rfl, Nat.le_of_ble_eq_true rfl⟩) hK hP q_T_bl (fun _ _ _ => trivial) [0, 1] rfl rfl rfl rfl hl.1 rfl (Nat.le_of_ble_eq_true rfl) dX2_whyNotDue_2 ⟨Nat.zero_le _, Nat.zero_le _⟩ ?_
  refine lv_if_ne (tgt := 10) hx hb dX2_whyNotDue_5 (by decide) (fun c3 => ?_) (fun c3 => ?_)
  · have h := xf c3 h
    refine lv_iload_n hx hb dX2_whyNotDue_10 rfl (lv_at hl 2 rfl) ?_
    refine lv_if_eq (tgt := 16) hx hb dX2_whyNotDue_11 (by decide) (fun c4 => ?_) (fun c4 => ?_)
    · have h := xt c4 h
      refine lv_aload_n hx hb dX2_whyNotDue_16 rfl (lv_at hl 0 rfl) ?_
      refine lv_iload_n hx hb dX2_whyNotDue_17 rfl (lv_at hl 1 rfl) ?_
      obtain ⟨x5, h6, h⟩ := bE h
      refine x_RV (As := [.int a1]) (rest := []) hF (c_X2_hoursSince l D cI cZ cT o a t a1 x5 h6) (cwV 1 hts (gqV mw_125 mw_126 mw_127 mw_15 mw_69) rfl rfl rfl hd_X2_hoursSince ⟨Nat.le_of_ble_eq_true rfl, Nat.le_of_ble_eq_true rfl⟩) hK hP q_T_bl (fun _ _ _ => trivial) [0, 1] rfl rfl rfl rfl hl.1 rfl (Nat.le_of_ble_eq_true rfl) dX2_whyNotDue_18 ⟨Nat.zero_le _, Nat.zero_le _⟩ ?_
      refine lv_aload_n hx hb dX2_whyNotDue_21 rfl (lv_at hl 0 rfl) ?_
      refine lv_iconst (v := 0) hx hb dX2_whyNotDue_22 (by decide) ?_
      refine lv_iconst (v := 1) hx hb dX2_whyNotDue_23 (by decide) ?_
      obtain ⟨x7, h8, h⟩ := bE h
      refine x_RV (As := [.int (0 : Int32), .int (1 : Int32)]) (rest := [.int x5]) hF (c_X2_read l D cI cZ cT o a t (0 : Int32) (1 : Int32) x7 h8) (cwV 2 hts (gqV mw_65 mw_66 mw_67 mw_15 mw_61) rfl rfl rfl hd_X2_read ⟨Nat.le_of_ble_eq_true rfl, Nat.le_of_ble_eq_true rfl⟩) hK hP q_T_bl (fun _ _ _ => trivial) [0, 1] rfl rfl rfl rfl hl.1 rfl (Nat.le_of_ble_eq_true rfl) dX2_whyNotDue_24 ⟨Nat.zero_le _, Nat.zero_le _⟩ ?_
      refine lv_icmp_ge (tgt := 34) hx hb dX2_whyNotDue_27 (by decide) (fun c9 => ?_) (fun c9 => ?_)
      · have h := xt c9 h
        refine lv_iconst (v := 0) hx hb dX2_whyNotDue_34 (by decide) ?_
        cases h
        exact x_retR C0 rfl dX2_whyNotDue_35
      · have h := xf c9 h
        refine lv_iconst (v := 3) hx hb dX2_whyNotDue_30 (by decide) ?_
        refine lv_goto (tgt := 35) hx hb dX2_whyNotDue_31 (by decide) ?_
        cases h
        exact x_retR C0 rfl dX2_whyNotDue_35
    · have h := xf c4 h
      refine lv_iconst (v := 2) hx hb dX2_whyNotDue_14 (by decide) ?_
      cases h
      exact x_retR C0 rfl dX2_whyNotDue_15
  · have h := xt c3 h
    refine lv_iconst (v := 1) hx hb dX2_whyNotDue_8 (by decide) ?_
    cases h
    exact x_retR C0 rfl dX2_whyNotDue_9

/-! QuarrelWays.Town.orNoneIfTooFar (I)I -/
def f_X2_orNoneIfTooFar (a0 : Int32) : Option (Int32) := (if a0 ≤ (500 : Int32) then some a0 else some (-6 : Int32))
abbrev rm_X2_orNoneIfTooFar : Room := { frames := 0, cells := 0, slots := 0, locals := 0 }
theorem hd_X2_orNoneIfTooFar : yX2_orNoneIfTooFar.cls = RX2 ∧ yX2_orNoneIfTooFar.cls ≠ "java/lang/invoke/MethodHandle" ∧ yX2_orNoneIfTooFar.cls ≠ "java/lang/invoke/VarHandle" ∧ (parseMethodDescriptor yX2_orNoneIfTooFar.desc).map (fun d => d.parameters.length) = some 1 := by decide +kernel
set_option maxHeartbeats 4000000 in
set_option maxRecDepth 100000 in
theorem c_X2_orNoneIfTooFar (l : Launch) (D : va_G) (cI cZ cT : ClassId) (a0 : Int32) (r : Int32) (h : f_X2_orNoneIfTooFar a0 = some r) : Met l yX2_orNoneIfTooFar (wq yX2_orNoneIfTooFar cX2_orNoneIfTooFar 1 (some .int)) rm_X2_orNoneIfTooFar (q_R D (q_tys cI cZ cT) ([]) q_T [.int a0]) (vp_Si (fun r' => r' = r)) 0 0 (fun _ => False) := by
  refine q_RI (cc := cX2_orNoneIfTooFar) (maxL := 1) (ret := (some .int)) (plainFor_of_name (by decide)) (Nat.le_of_ble_eq_true rfl) (fun p e s m below meth c C0 hP hK hE ls hl => ?_)
  have hl : lv_has ls 1 [(0, .int a0)] := hl
  obtain ⟨hx, hb, hr, hml, hown, hts, hlocks⟩ := id C0
  have hF : CallFix p m c cX2_orNoneIfTooFar 1 s _ BW RX2 := ⟨hx, hb, hml, hown, hts⟩
  rw [f_X2_orNoneIfTooFar] at h
  refine lv_iload_n hx hb dX2_orNoneIfTooFar_0 rfl (lv_at hl 0 rfl) ?_
  refine lv_sipush (v := 500) hx hb dX2_orNoneIfTooFar_1 (by decide) ?_
  refine lv_icmp_le (tgt := 12) hx hb dX2_orNoneIfTooFar_4 (by decide) (fun c1 => ?_) (fun c1 => ?_)
  · have h := xt c1 h
    refine lv_iload_n hx hb dX2_orNoneIfTooFar_12 rfl (lv_at hl 0 rfl) ?_
    cases h
    exact x_retR C0 rfl dX2_orNoneIfTooFar_13
  · have h := xf c1 h
    refine lv_bipush (v := (-6)) hx hb dX2_orNoneIfTooFar_7 (by decide) ?_
    refine lv_goto (tgt := 13) hx hb dX2_orNoneIfTooFar_9 (by decide) ?_
    cases h
    exact x_retR C0 rfl dX2_orNoneIfTooFar_13

/-! QuarrelWays.Town.firstOf (I)I -/
def f_X2_firstOf_L2 (y0 : Int32) : Nat → Int32 → Option (Int32)
  | 0, _ => none
  | n + 1, y1 => (if (5 : Int32) ≤ y1 then some (-6 : Int32) else (if (y0 &&& ((1 : Int32) <<< (y1 &&& 31))) = 0 then f_X2_firstOf_L2 y0 n (y1 + (1 : Int32)) else some y1))
def f_X2_firstOf (a0 : Int32) : Option (Int32) := f_X2_firstOf_L2 a0 2000 (0 : Int32)
abbrev rm_X2_firstOf : Room := { frames := 0, cells := 0, slots := 0, locals := 0 }
theorem hd_X2_firstOf : yX2_firstOf.cls = RX2 ∧ yX2_firstOf.cls ≠ "java/lang/invoke/MethodHandle" ∧ yX2_firstOf.cls ≠ "java/lang/invoke/VarHandle" ∧ (parseMethodDescriptor yX2_firstOf.desc).map (fun d => d.parameters.length) = some 1 := by decide +kernel
set_option maxHeartbeats 4000000 in
set_option maxRecDepth 100000 in
theorem k_X2_firstOf_L2 {r : Int32} (y0 : Int32) (C0 : q_At p s m args meth c cX2_firstOf 2 (some .int) RX2) (hK : va_K D vwCl (q_tys cI cZ cT) s) (hP : va_P D vwCl ([]) s.heap) : ∀ (n : Nat) (y1 : Int32) (ls : Array Slot), lv_has ls 2 [(0, .int y0), (1, .int y1)] → f_X2_firstOf_L2 y0 n y1 = some r → W p l e rm_X2_firstOf s m args below meth c s.heap [] 0 0 (q_QR below args s r) (F0 m 2 ls []) := by
  obtain ⟨hx, hb, hr, hml, hown, hts, hlocks⟩ := id C0
  have hF : CallFix p m c cX2_firstOf 2 s args BW RX2 := ⟨hx, hb, hml, hown, hts⟩
  intro n
  induction n with
  | zero =>
    intro y1 ls hl h
    rw [f_X2_firstOf_L2] at h
    cases h
  | succ n ih =>
    intro y1 ls hl h
    rw [f_X2_firstOf_L2] at h
    refine lv_iload_n hx hb dX2_firstOf_2 rfl (lv_at hl 1 rfl) ?_
    refine lv_iconst (v := 5) hx hb dX2_firstOf_3 (by decide) ?_
    refine lv_icmp_ge (tgt := 23) hx hb dX2_firstOf_4 (by decide) (fun c1 => ?_) (fun c1 => ?_)
    · have h := xt c1 h
      refine lv_bipush (v := (-6)) hx hb dX2_firstOf_23 (by decide) ?_
      cases h
      exact x_retR C0 rfl dX2_firstOf_25
    · have h := xf c1 h
      refine lv_iload_n hx hb dX2_firstOf_7 rfl (lv_at hl 0 rfl) ?_
      refine lv_iconst (v := 1) hx hb dX2_firstOf_8 (by decide) ?_
      refine lv_iload_n hx hb dX2_firstOf_9 rfl (lv_at hl 1 rfl) ?_
      refine lv_ishl hx hb dX2_firstOf_10 ?_
      refine lv_iand hx hb dX2_firstOf_11 ?_
      refine lv_if_eq (tgt := 17) hx hb dX2_firstOf_12 (by decide) (fun c2 => ?_) (fun c2 => ?_)
      · have h := xt c2 h
        refine lv_iinc (v := (y1 + (1 : Int32))) (lv' := [(1, .int (y1 + (1 : Int32))), (0, .int y0)]) hx hb dX2_firstOf_17 hl (k := 1) rfl rfl (by decide) rfl (fun ls hl => ?_)
        refine lv_goto (tgt := 2) hx hb dX2_firstOf_20 (by decide) ?_
        exact ih (y1 + (1 : Int32)) _ (lv_sub hl [1, 0] rfl) h
      · have h := xf c2 h
        refine lv_iload_n hx hb dX2_firstOf_15 rfl (lv_at hl 1 rfl) ?_
        cases h
        exact x_retR C0 rfl dX2_firstOf_16
set_option maxHeartbeats 4000000 in
set_option maxRecDepth 100000 in
theorem c_X2_firstOf (l : Launch) (D : va_G) (cI cZ cT : ClassId) (a0 : Int32) (r : Int32) (h : f_X2_firstOf a0 = some r) : Met l yX2_firstOf (wq yX2_firstOf cX2_firstOf 2 (some .int)) rm_X2_firstOf (q_R D (q_tys cI cZ cT) ([]) q_T [.int a0]) (vp_Si (fun r' => r' = r)) 0 0 (fun _ => False) := by
  refine q_RI (cc := cX2_firstOf) (maxL := 2) (ret := (some .int)) (plainFor_of_name (by decide)) (Nat.le_of_ble_eq_true rfl) (fun p e s m below meth c C0 hP hK hE ls hl => ?_)
  have hl : lv_has ls 2 [(0, .int a0)] := hl
  obtain ⟨hx, hb, hr, hml, hown, hts, hlocks⟩ := id C0
  have hF : CallFix p m c cX2_firstOf 2 s _ BW RX2 := ⟨hx, hb, hml, hown, hts⟩
  rw [f_X2_firstOf] at h
  refine lv_iconst (v := 0) hx hb dX2_firstOf_0 (by decide) ?_
  refine lv_istore_n (lv' := [(1, .int (0 : Int32)), (0, .int a0)]) hx hb dX2_firstOf_1 rfl hl (by decide) rfl (fun ls hl => ?_)
  exact k_X2_firstOf_L2 a0 C0 hK hP 2000 (0 : Int32) _ (lv_sub hl [1, 0] rfl) h

/-! QuarrelWays.Town.hoursUntilCool (I)I -/
def f_X2_hoursUntilCool (t : TT) (a1 : Int32) : Option (Int32) := ((f_X2_read t (68 : Int32) a1).bind fun x1 => ((f_X2_hoursToCool t x1).bind fun x3 => ((f_X2_hoursSince t a1).bind fun x5 => some (x3 - x5))))
abbrev rm_X2_hoursUntilCool : Room := { frames := 2, cells := 0, slots := 0, locals := 44 }
theorem hd_X2_hoursUntilCool : yX2_hoursUntilCool.cls = RX2 ∧ yX2_hoursUntilCool.cls ≠ "java/lang/invoke/MethodHandle" ∧ yX2_hoursUntilCool.cls ≠ "java/lang/invoke/VarHandle" ∧ (parseMethodDescriptor yX2_hoursUntilCool.desc).map (fun d => d.parameters.length) = some 1 := by decide +kernel
set_option maxHeartbeats 4000000 in
set_option maxRecDepth 100000 in
theorem c_X2_hoursUntilCool (l : Launch) (D : va_G) (cI cZ cT : ClassId) (o a : Nat) (t : TT) (a1 : Int32) (r : Int32) (h : f_X2_hoursUntilCool t a1 = some r) : Met l yX2_hoursUntilCool (wq yX2_hoursUntilCool cX2_hoursUntilCool 2 (some .int)) rm_X2_hoursUntilCool (q_R D (q_tys cI cZ cT) (wT cI o a t) q_T [.ref o, .int a1]) (vp_Si (fun r' => r' = r)) 0 0 (fun _ => False) := by
  refine q_RI (cc := cX2_hoursUntilCool) (maxL := 2) (ret := (some .int)) (plainFor_of_name (by decide)) (Nat.le_of_ble_eq_true rfl) (fun p e s m below meth c C0 hP hK hE ls hl => ?_)
  have hl : lv_has ls 2 [(0, .ref o), (1, .int a1)] := hl
  obtain ⟨hx, hb, hr, hml, hown, hts, hlocks⟩ := id C0
  have hF : CallFix p m c cX2_hoursUntilCool 2 s _ BW RX2 := ⟨hx, hb, hml, hown, hts⟩
  rw [f_X2_hoursUntilCool] at h
  refine lv_aload_n hx hb dX2_hoursUntilCool_0 rfl (lv_at hl 0 rfl) ?_
  refine lv_aload_n hx hb dX2_hoursUntilCool_1 rfl (lv_at hl 0 rfl) ?_
  refine lv_bipush (v := 68) hx hb dX2_hoursUntilCool_2 (by decide) ?_
  refine lv_iload_n hx hb dX2_hoursUntilCool_4 rfl (lv_at hl 1 rfl) ?_
  obtain ⟨x1, h2, h⟩ := bE h
  refine x_RV (As := [.int (68 : Int32), .int a1]) (rest := [.ref o]) hF (c_X2_read l D cI cZ cT o a t (68 : Int32) a1 x1 h2) (cwV 2 hts (gqV mw_65 mw_66 mw_67 mw_15 mw_61) rfl rfl rfl hd_X2_read ⟨Nat.le_of_ble_eq_true rfl, Nat.le_of_ble_eq_true rfl⟩) hK hP q_T_bl (fun _ _ _ => trivial) [0, 1] rfl rfl rfl rfl hl.1 rfl (Nat.le_of_ble_eq_true rfl) dX2_hoursUntilCool_5 ⟨Nat.zero_le _, Nat.zero_le _⟩ ?_
  obtain ⟨x3, h4, h⟩ := bE h
  refine x_RV (As := [.int x1]) (rest := []) hF (c_X2_hoursToCool l D cI cZ cT o a t x1 x3 h4) (cwV 1 hts (gqV mw_115 mw_116 mw_117 mw_15 mw_110) rfl rfl rfl hd_X2_hoursToCool ⟨Nat.le_of_ble_eq_true rfl, Nat.le_of_ble_eq_true rfl⟩) hK hP q_T_bl (fun _ _ _ => trivial) [0, 1] rfl rfl rfl rfl hl.1 rfl (Nat.le_of_ble_eq_true rfl) dX2_hoursUntilCool_8 ⟨Nat.zero_le _, Nat.zero_le _⟩ ?_
  refine lv_aload_n hx hb dX2_hoursUntilCool_11 rfl (lv_at hl 0 rfl) ?_
  refine lv_iload_n hx hb dX2_hoursUntilCool_12 rfl (lv_at hl 1 rfl) ?_
  obtain ⟨x5, h6, h⟩ := bE h
  refine x_RV (As := [.int a1]) (rest := [.int x3]) hF (c_X2_hoursSince l D cI cZ cT o a t a1 x5 h6) (cwV 1 hts (gqV mw_125 mw_126 mw_127 mw_15 mw_69) rfl rfl rfl hd_X2_hoursSince ⟨Nat.le_of_ble_eq_true rfl, Nat.le_of_ble_eq_true rfl⟩) hK hP q_T_bl (fun _ _ _ => trivial) [0, 1] rfl rfl rfl rfl hl.1 rfl (Nat.le_of_ble_eq_true rfl) dX2_hoursUntilCool_13 ⟨Nat.zero_le _, Nat.zero_le _⟩ ?_
  refine lv_isub hx hb dX2_hoursUntilCool_16 ?_
  cases h
  exact x_retR C0 rfl dX2_hoursUntilCool_17

/-! QuarrelWays.Town.hoursUntilWay (I)I -/
def f_X2_hoursUntilWay (t : TT) (a1 : Int32) : Option (Int32) := ((f_X2_waysOf t a1).bind fun x1 => (if x1 = 0 then ((f_X2_allows t (2 : Int32)).bind fun x4 => (if x4 = 0 then some (-6 : Int32) else ((f_X2_hoursUntilCool t a1).bind fun x7 => ((f_X2_orNoneIfTooFar x7).bind fun x9 => some x9)))) else some (0 : Int32)))
abbrev rm_X2_hoursUntilWay : Room := { frames := 4, cells := 0, slots := 0, locals := 94 }
theorem hd_X2_hoursUntilWay : yX2_hoursUntilWay.cls = RX2 ∧ yX2_hoursUntilWay.cls ≠ "java/lang/invoke/MethodHandle" ∧ yX2_hoursUntilWay.cls ≠ "java/lang/invoke/VarHandle" ∧ (parseMethodDescriptor yX2_hoursUntilWay.desc).map (fun d => d.parameters.length) = some 1 := by decide +kernel
set_option maxHeartbeats 4000000 in
set_option maxRecDepth 100000 in
theorem c_X2_hoursUntilWay (l : Launch) (D : va_G) (cI cZ cT : ClassId) (o a : Nat) (t : TT) (a1 : Int32) (r : Int32) (h : f_X2_hoursUntilWay t a1 = some r) : Met l yX2_hoursUntilWay (wq yX2_hoursUntilWay cX2_hoursUntilWay 2 (some .int)) rm_X2_hoursUntilWay (q_R D (q_tys cI cZ cT) (wT cI o a t) q_T [.ref o, .int a1]) (vp_Si (fun r' => r' = r)) 0 0 (fun _ => False) := by
  refine q_RI (cc := cX2_hoursUntilWay) (maxL := 2) (ret := (some .int)) (plainFor_of_name (by decide)) (Nat.le_of_ble_eq_true rfl) (fun p e s m below meth c C0 hP hK hE ls hl => ?_)
  have hl : lv_has ls 2 [(0, .ref o), (1, .int a1)] := hl
  obtain ⟨hx, hb, hr, hml, hown, hts, hlocks⟩ := id C0
  have hF : CallFix p m c cX2_hoursUntilWay 2 s _ BW RX2 := ⟨hx, hb, hml, hown, hts⟩
  rw [f_X2_hoursUntilWay] at h
  refine lv_aload_n hx hb dX2_hoursUntilWay_0 rfl (lv_at hl 0 rfl) ?_
  refine lv_iload_n hx hb dX2_hoursUntilWay_1 rfl (lv_at hl 1 rfl) ?_
  obtain ⟨x1, h2, h⟩ := bE h
  refine x_RV (As := [.int a1]) (rest := []) hF (c_X2_waysOf l D cI cZ cT o a t a1 x1 h2) (cwV 1 hts (gqV mw_137 mw_138 mw_139 mw_15 mw_131) rfl rfl rfl hd_X2_waysOf ⟨Nat.le_of_ble_eq_true rfl, Nat.le_of_ble_eq_true rfl⟩) hK hP q_T_bl (fun _ _ _ => trivial) [0, 1] rfl rfl rfl rfl hl.1 rfl (Nat.le_of_ble_eq_true rfl) dX2_hoursUntilWay_2 ⟨Nat.zero_le _, Nat.zero_le _⟩ ?_
  refine lv_if_eq (tgt := 10) hx hb dX2_hoursUntilWay_5 (by decide) (fun c3 => ?_) (fun c3 => ?_)
  · have h := xt c3 h
    refine lv_aload_n hx hb dX2_hoursUntilWay_10 rfl (lv_at hl 0 rfl) ?_
    refine lv_iconst (v := 2) hx hb dX2_hoursUntilWay_11 (by decide) ?_
    obtain ⟨x4, h5, h⟩ := bE h
    refine x_RV (As := [.int (2 : Int32)]) (rest := []) hF (c_X2_allows l D cI cZ cT o a t (2 : Int32) x4 h5) (cwV 1 hts (gqV mw_169 mw_170 mw_171 mw_15 mw_68) rfl rfl rfl hd_X2_allows ⟨Nat.le_of_ble_eq_true rfl, Nat.le_of_ble_eq_true rfl⟩) hK hP q_T_bl (fun _ _ _ => trivial) [0, 1] rfl rfl rfl rfl hl.1 rfl (Nat.le_of_ble_eq_true rfl) dX2_hoursUntilWay_12 ⟨Nat.zero_le _, Nat.zero_le _⟩ ?_
    refine lv_if_eq (tgt := 29) hx hb dX2_hoursUntilWay_15 (by decide) (fun c6 => ?_) (fun c6 => ?_)
    · have h := xt c6 h
      refine lv_bipush (v := (-6)) hx hb dX2_hoursUntilWay_29 (by decide) ?_
      cases h
      exact x_retR C0 rfl dX2_hoursUntilWay_31
    · have h := xf c6 h
      refine lv_aload_n hx hb dX2_hoursUntilWay_18 rfl (lv_at hl 0 rfl) ?_
      refine lv_iload_n hx hb dX2_hoursUntilWay_19 rfl (lv_at hl 1 rfl) ?_
      obtain ⟨x7, h8, h⟩ := bE h
      refine x_RV (As := [.int a1]) (rest := []) hF (c_X2_hoursUntilCool l D cI cZ cT o a t a1 x7 h8) (cwV 1 hts (gqV mw_172 mw_173 mw_174 mw_15 mw_167) rfl rfl rfl hd_X2_hoursUntilCool ⟨Nat.le_of_ble_eq_true rfl, Nat.le_of_ble_eq_true rfl⟩) hK hP q_T_bl (fun _ _ _ => trivial) [0, 1] rfl rfl rfl rfl hl.1 rfl (Nat.le_of_ble_eq_true rfl) dX2_hoursUntilWay_20 ⟨Nat.zero_le _, Nat.zero_le _⟩ ?_
      obtain ⟨x9, h10, h⟩ := bE h
      refine x_RS (As := [.int x7]) (rest := []) hF (c_X2_orNoneIfTooFar l D cI cZ cT  x7 x9 h10) (va_cwS 1 hts (gqS mw_175 mw_176 mw_15 mw_168) rfl rfl rfl hd_X2_orNoneIfTooFar.2 ⟨Nat.le_of_ble_eq_true rfl, Nat.le_of_ble_eq_true rfl⟩) hK hP q_T_bl (fun _ _ _ => trivial) [] rfl rfl hl.1 rfl (Nat.le_of_ble_eq_true rfl) dX2_hoursUntilWay_23 ⟨Nat.zero_le _, Nat.zero_le _⟩ ?_
      refine lv_goto (tgt := 31) hx hb dX2_hoursUntilWay_26 (by decide) ?_
      cases h
      exact x_retR C0 rfl dX2_hoursUntilWay_31
  · have h := xf c3 h
    refine lv_iconst (v := 0) hx hb dX2_hoursUntilWay_8 (by decide) ?_
    cases h
    exact x_retR C0 rfl dX2_hoursUntilWay_9

/-! QuarrelWays.Town.hoursUntilDuel (I)I -/
def f_X2_hoursUntilDuel (t : TT) (a1 : Int32) : Option (Int32) := ((f_X2_waysOf t a1).bind fun x1 => (if (x1 &&& (3 : Int32)) = 0 then ((f_X2_read t (44 : Int32) a1).bind fun x4 => ((f_X2_read t (56 : Int32) a1).bind fun x6 => ((f_X2_read t (0 : Int32) (1 : Int32)).bind fun x8 => ((f_X2_hoursSince t a1).bind fun x10 => ((f_X2_allows t (3 : Int32)).bind fun x12 => (((if x12 = 0 then some (if (0 : Int32) < (x8 - x10) then (x8 - x10) else (0 : Int32)) else ((f_X2_oathLeft t x4).bind fun x32 => ((f_X2_oathLeft t x6).bind fun x34 => some (if (if (0 : Int32) < (x8 - x10) then (x8 - x10) else (0 : Int32)) < (if x32 < x34 then x34 else x32) then (if x32 < x34 then x34 else x32) else (if (0 : Int32) < (x8 - x10) then (x8 - x10) else (0 : Int32)))))) : Option (Int32)).bind fun v14 => ((f_X2_allows t (4 : Int32)).bind fun x15 => (((if x15 = 0 then some v14 else ((f_X2_peaceLeft t x4 x6).bind fun x29 => some (if v14 < (x29 + (1 : Int32)) then (x29 + (1 : Int32)) else v14))) : Option (Int32)).bind fun v17 => ((f_X2_allows t (2 : Int32)).bind fun x18 => (if x18 = 0 then ((f_X2_orNoneIfTooFar v17).bind fun x21 => some x21) else ((f_X2_hoursUntilCool t a1).bind fun x23 => (if v17 < x23 then ((f_X2_orNoneIfTooFar v17).bind fun x26 => some x26) else some (-6 : Int32))))))))))))) else some (-6 : Int32)))
abbrev rm_X2_hoursUntilDuel : Room := { frames := 4, cells := 0, slots := 0, locals := 94 }
theorem hd_X2_hoursUntilDuel : yX2_hoursUntilDuel.cls = RX2 ∧ yX2_hoursUntilDuel.cls ≠ "java/lang/invoke/MethodHandle" ∧ yX2_hoursUntilDuel.cls ≠ "java/lang/invoke/VarHandle" ∧ (parseMethodDescriptor yX2_hoursUntilDuel.desc).map (fun d => d.parameters.length) = some 1 := by decide +kernel
set_option maxHeartbeats 4000000 in
set_option maxRecDepth 100000 in
theorem c_X2_hoursUntilDuel (l : Launch) (D : va_G) (cI cZ cT : ClassId) (o a : Nat) (t : TT) (a1 : Int32) (r : Int32) (h : f_X2_hoursUntilDuel t a1 = some r) : Met l yX2_hoursUntilDuel (wq yX2_hoursUntilDuel cX2_hoursUntilDuel 5 (some .int)) rm_X2_hoursUntilDuel (q_R D (q_tys cI cZ cT) (wT cI o a t) q_T [.ref o, .int a1]) (vp_Si (fun r' => r' = r)) 0 0 (fun _ => False) := by
  refine q_RI (cc := cX2_hoursUntilDuel) (maxL := 5) (ret := (some .int)) (plainFor_of_name (by decide)) (Nat.le_of_ble_eq_true rfl) (fun p e s m below meth c C0 hP hK hE ls hl => ?_)
  have hl : lv_has ls 5 [(0, .ref o), (1, .int a1)] := hl
  obtain ⟨hx, hb, hr, hml, hown, hts, hlocks⟩ := id C0
  have hF : CallFix p m c cX2_hoursUntilDuel 5 s _ BW RX2 := ⟨hx, hb, hml, hown, hts⟩
  rw [f_X2_hoursUntilDuel] at h
  refine lv_aload_n hx hb dX2_hoursUntilDuel_0 rfl (lv_at hl 0 rfl) ?_
  refine lv_iload_n hx hb dX2_hoursUntilDuel_1 rfl (lv_at hl 1 rfl) ?_
  obtain ⟨x1, h2, h⟩ := bE h
  refine x_RV (As := [.int a1]) (rest := []) hF (c_X2_waysOf l D cI cZ cT o a t a1 x1 h2) (cwV 1 hts (gqV mw_137 mw_138 mw_139 mw_15 mw_131) rfl rfl rfl hd_X2_waysOf ⟨Nat.le_of_ble_eq_true rfl, Nat.le_of_ble_eq_true rfl⟩) hK hP q_T_bl (fun _ _ _ => trivial) [0, 1] rfl rfl rfl rfl hl.1 rfl (Nat.le_of_ble_eq_true rfl) dX2_hoursUntilDuel_2 ⟨Nat.zero_le _, Nat.zero_le _⟩ ?_
  refine lv_iconst (v := 3) hx hb dX2_hoursUntilDuel_5 (by decide) ?_
  refine lv_iand hx hb dX2_hoursUntilDuel_6 ?_
  refine lv_if_eq (tgt := 13) hx hb dX2_hoursUntilDuel_7 (by decide) (fun c3 => ?_) (fun c3 => ?_)
  · have h := xt c3 h
    refine lv_aload_n hx hb dX2_hoursUntilDuel_13 rfl (lv_at hl 0 rfl) ?_
    refine lv_bipush (v := 44) hx hb dX2_hoursUntilDuel_14 (by decide) ?_
    refine lv_iload_n hx hb dX2_hoursUntilDuel_16 rfl (lv_at hl 1 rfl) ?_
    obtain ⟨x4, h5, h⟩ := bE h
    refine x_RV (As := [.int (44 : Int32), .int a1]) (rest := []) hF (c_X2_read l D cI cZ cT o a t (44 : Int32) a1 x4 h5) (cwV 2 hts (gqV mw_65 mw_66 mw_67 mw_15 mw_61) rfl rfl rfl hd_X2_read ⟨Nat.le_of_ble_eq_true rfl, Nat.le_of_ble_eq_true rfl⟩) hK hP q_T_bl (fun _ _ _ => trivial) [0, 1] rfl rfl rfl rfl hl.1 rfl (Nat.le_of_ble_eq_true rfl) dX2_hoursUntilDuel_17 ⟨Nat.zero_le _, Nat.zero_le _⟩ ?_
    refine lv_istore_n (lv' := [(2, .int x4), (0, .ref o), (1, .int a1)]) hx hb dX2_hoursUntilDuel_20 rfl hl (by decide) rfl (fun ls hl => ?_)
    refine lv_aload_n hx hb dX2_hoursUntilDuel_21 rfl (lv_at hl 1 rfl) ?_
    refine lv_bipush (v := 56) hx hb dX2_hoursUntilDuel_22 (by decide) ?_
    refine lv_iload_n hx hb dX2_hoursUntilDuel_24 rfl (lv_at hl 2 rfl) ?_
    obtain ⟨x6, h7, h⟩ := bE h
    refine x_RV (As := [.int (56 : Int32), .int a1]) (rest := []) hF (c_X2_read l D cI cZ cT o a t (56 : Int32) a1 x6 h7) (cwV 2 hts (gqV mw_65 mw_66 mw_67 mw_15 mw_61) rfl rfl rfl hd_X2_read ⟨Nat.le_of_ble_eq_true rfl, Nat.le_of_ble_eq_true rfl⟩) hK hP q_T_bl (fun _ _ _ => trivial) [0, 1] rfl rfl rfl rfl hl.1 rfl (Nat.le_of_ble_eq_true rfl) dX2_hoursUntilDuel_25 ⟨Nat.zero_le _, Nat.zero_le _⟩ ?_
    refine lv_istore_n (lv' := [(3, .int x6), (2, .int x4), (0, .ref o), (1, .int a1)]) hx hb dX2_hoursUntilDuel_28 rfl hl (by decide) rfl (fun ls hl => ?_)
    refine lv_iconst (v := 0) hx hb dX2_hoursUntilDuel_29 (by decide) ?_
    refine lv_aload_n hx hb dX2_hoursUntilDuel_30 rfl (lv_at hl 2 rfl) ?_
    refine lv_iconst (v := 0) hx hb dX2_hoursUntilDuel_31 (by decide) ?_
    refine lv_iconst (v := 1) hx hb dX2_hoursUntilDuel_32 (by decide) ?_
    obtain ⟨x8, h9, h⟩ := bE h
    refine x_RV (As := [.int (0 : Int32), .int (1 : Int32)]) (rest := [.int (0 : Int32)]) hF (c_X2_read l D cI cZ cT o a t (0 : Int32) (1 : Int32) x8 h9) (cwV 2 hts (gqV mw_65 mw_66 mw_67 mw_15 mw_61) rfl rfl rfl hd_X2_read ⟨Nat.le_of_ble_eq_true rfl, Nat.le_of_ble_eq_true rfl⟩) hK hP q_T_bl (fun _ _ _ => trivial) [0, 1] rfl rfl rfl rfl hl.1 rfl (Nat.le_of_ble_eq_true rfl) dX2_hoursUntilDuel_33 ⟨Nat.zero_le _, Nat.zero_le _⟩ ?_
    refine lv_aload_n hx hb dX2_hoursUntilDuel_36 rfl (lv_at hl 2 rfl) ?_
    refine lv_iload_n hx hb dX2_hoursUntilDuel_37 rfl (lv_at hl 3 rfl) ?_
    obtain ⟨x10, h11, h⟩ := bE h
    refine x_RV (As := [.int a1]) (rest := [.int x8, .int (0 : Int32)]) hF (c_X2_hoursSince l D cI cZ cT o a t a1 x10 h11) (cwV 1 hts (gqV mw_125 mw_126 mw_127 mw_15 mw_69) rfl rfl rfl hd_X2_hoursSince ⟨Nat.le_of_ble_eq_true rfl, Nat.le_of_ble_eq_true rfl⟩) hK hP q_T_bl (fun _ _ _ => trivial) [0, 1] rfl rfl rfl rfl hl.1 rfl (Nat.le_of_ble_eq_true rfl) dX2_hoursUntilDuel_38 ⟨Nat.zero_le _, Nat.zero_le _⟩ ?_
    refine lv_isub hx hb dX2_hoursUntilDuel_41 ?_
    refine va_mmax hx hb (hml.trans hl.1.symm) hown (hts _ mw_71) (hts _ mw_72) (hts _ mw_28) (hts _ mw_73) (Nat.le_of_ble_eq_true rfl) (Nat.le_of_ble_eq_true rfl) (Nat.zero_le _) (Nat.zero_le _) dX2_hoursUntilDuel_42 ?_
    refine lv_istore (lv' := [(4, .int (if (0 : Int32) < (x8 - x10) then (x8 - x10) else (0 : Int32))), (3, .int x6), (2, .int x4), (0, .ref o), (1, .int a1)]) hx hb dX2_hoursUntilDuel_45 hl (by decide) rfl (fun ls hl => ?_)
    refine lv_aload_n hx hb dX2_hoursUntilDuel_47 rfl (lv_at hl 3 rfl) ?_
    refine lv_iconst (v := 3) hx hb dX2_hoursUntilDuel_48 (by decide) ?_
    obtain ⟨x12, h13, h⟩ := bE h
    refine x_RV (As := [.int (3 : Int32)]) (rest := []) hF (c_X2_allows l D cI cZ cT o a t (3 : Int32) x12 h13) (cwV 1 hts (gqV mw_169 mw_170 mw_171 mw_15 mw_68) rfl rfl rfl hd_X2_allows ⟨Nat.le_of_ble_eq_true rfl, Nat.le_of_ble_eq_true rfl⟩) hK hP q_T_bl (fun _ _ _ => trivial) [0, 1] rfl rfl rfl rfl hl.1 rfl (Nat.le_of_ble_eq_true rfl) dX2_hoursUntilDuel_49 ⟨Nat.zero_le _, Nat.zero_le _⟩ ?_
    refine x_j (V := Int32) (nL := 5) (fun v14 => [(0, .ref o), (1, .int a1), (2, .int x4), (3, .int x6), (4, .int v14)]) 75 (fun v14 => []) h (fun v14 h ls hl => ?_) (fun v14 h hj => ?_)
    · refine lv_aload_n hx hb dX2_hoursUntilDuel_75 rfl (lv_at hl 0 rfl) ?_
      refine lv_iconst (v := 4) hx hb dX2_hoursUntilDuel_76 (by decide) ?_
      obtain ⟨x15, h16, h⟩ := bE h
      refine x_RV (As := [.int (4 : Int32)]) (rest := []) hF (c_X2_allows l D cI cZ cT o a t (4 : Int32) x15 h16) (cwV 1 hts (gqV mw_169 mw_170 mw_171 mw_15 mw_68) rfl rfl rfl hd_X2_allows ⟨Nat.le_of_ble_eq_true rfl, Nat.le_of_ble_eq_true rfl⟩) hK hP q_T_bl (fun _ _ _ => trivial) [0, 1] rfl rfl rfl rfl hl.1 rfl (Nat.le_of_ble_eq_true rfl) dX2_hoursUntilDuel_77 ⟨Nat.zero_le _, Nat.zero_le _⟩ ?_
      refine x_j (V := Int32) (nL := 5) (fun v17 => [(0, .ref o), (1, .int a1), (4, .int v17)]) 98 (fun v17 => []) h (fun v17 h ls hl => ?_) (fun v17 h hj => ?_)
      · refine lv_aload_n hx hb dX2_hoursUntilDuel_98 rfl (lv_at hl 0 rfl) ?_
        refine lv_iconst (v := 2) hx hb dX2_hoursUntilDuel_99 (by decide) ?_
        obtain ⟨x18, h19, h⟩ := bE h
        refine x_RV (As := [.int (2 : Int32)]) (rest := []) hF (c_X2_allows l D cI cZ cT o a t (2 : Int32) x18 h19) (cwV 1 hts (gqV mw_169 mw_170 mw_171 mw_15 mw_68) rfl rfl rfl hd_X2_allows ⟨Nat.le_of_ble_eq_true rfl, Nat.le_of_ble_eq_true rfl⟩) hK hP q_T_bl (fun _ _ _ => trivial) [0, 1] rfl rfl rfl rfl hl.1 rfl (Nat.le_of_ble_eq_true rfl) dX2_hoursUntilDuel_100 ⟨Nat.zero_le _, Nat.zero_le _⟩ ?_
        refine lv_if_eq (tgt := 121) hx hb dX2_hoursUntilDuel_103 (by decide) (fun c20 => ?_) (fun c20 => ?_)
        · have h := xt c20 h
          refine lv_iload hx hb dX2_hoursUntilDuel_121 (lv_at hl 2 rfl) ?_
          obtain ⟨x21, h22, h⟩ := bE h
          refine x_RS (As := [.int v17]) (rest := []) hF (c_X2_orNoneIfTooFar l D cI cZ cT  v17 x21 h22) (va_cwS 1 hts (gqS mw_175 mw_176 mw_15 mw_168) rfl rfl rfl hd_X2_orNoneIfTooFar.2 ⟨Nat.le_of_ble_eq_true rfl, Nat.le_of_ble_eq_true rfl⟩) hK hP q_T_bl (fun _ _ _ => trivial) [] rfl rfl hl.1 rfl (Nat.le_of_ble_eq_true rfl) dX2_hoursUntilDuel_123 ⟨Nat.zero_le _, Nat.zero_le _⟩ ?_
          cases h
          exact x_retR C0 rfl dX2_hoursUntilDuel_126
        · have h := xf c20 h
          refine lv_iload hx hb dX2_hoursUntilDuel_106 (lv_at hl 2 rfl) ?_
          refine lv_aload_n hx hb dX2_hoursUntilDuel_108 rfl (lv_at hl 0 rfl) ?_
          refine lv_iload_n hx hb dX2_hoursUntilDuel_109 rfl (lv_at hl 1 rfl) ?_
          obtain ⟨x23, h24, h⟩ := bE h
          refine x_RV (As := [.int a1]) (rest := [.int v17]) hF (c_X2_hoursUntilCool l D cI cZ cT o a t a1 x23 h24) (cwV 1 hts (gqV mw_172 mw_173 mw_174 mw_15 mw_167) rfl rfl rfl hd_X2_hoursUntilCool ⟨Nat.le_of_ble_eq_true rfl, Nat.le_of_ble_eq_true rfl⟩) hK hP q_T_bl (fun _ _ _ => trivial) [0, 1] rfl rfl rfl rfl hl.1 rfl (Nat.le_of_ble_eq_true rfl) dX2_hoursUntilDuel_110 ⟨Nat.zero_le _, Nat.zero_le _⟩ ?_
          refine lv_icmp_lt (tgt := 121) hx hb dX2_hoursUntilDuel_113 (by decide) (fun c25 => ?_) (fun c25 => ?_)
          · have h := xt c25 h
            refine lv_iload hx hb dX2_hoursUntilDuel_121 (lv_at hl 2 rfl) ?_
            obtain ⟨x26, h27, h⟩ := bE h
            refine x_RS (As := [.int v17]) (rest := []) hF (c_X2_orNoneIfTooFar l D cI cZ cT  v17 x26 h27) (va_cwS 1 hts (gqS mw_175 mw_176 mw_15 mw_168) rfl rfl rfl hd_X2_orNoneIfTooFar.2 ⟨Nat.le_of_ble_eq_true rfl, Nat.le_of_ble_eq_true rfl⟩) hK hP q_T_bl (fun _ _ _ => trivial) [] rfl rfl hl.1 rfl (Nat.le_of_ble_eq_true rfl) dX2_hoursUntilDuel_123 ⟨Nat.zero_le _, Nat.zero_le _⟩ ?_
            cases h
            exact x_retR C0 rfl dX2_hoursUntilDuel_126
          · have h := xf c25 h
            refine lv_bipush (v := (-6)) hx hb dX2_hoursUntilDuel_116 (by decide) ?_
            refine lv_goto (tgt := 126) hx hb dX2_hoursUntilDuel_118 (by decide) ?_
            cases h
            exact x_retR C0 rfl dX2_hoursUntilDuel_126
      · refine lv_if_eq (tgt := 98) hx hb dX2_hoursUntilDuel_80 (by decide) (fun c28 => ?_) (fun c28 => ?_)
        · have h := xt c28 h
          cases h
          exact hj _ (lv_sub hl [0, 1, 4] rfl)
        · have h := xf c28 h
          refine lv_iload hx hb dX2_hoursUntilDuel_83 (lv_at hl 4 rfl) ?_
          refine lv_aload_n hx hb dX2_hoursUntilDuel_85 rfl (lv_at hl 0 rfl) ?_
          refine lv_iload_n hx hb dX2_hoursUntilDuel_86 rfl (lv_at hl 2 rfl) ?_
          refine lv_iload_n hx hb dX2_hoursUntilDuel_87 rfl (lv_at hl 3 rfl) ?_
          obtain ⟨x29, h30, h⟩ := bE h
          refine x_RV (As := [.int x4, .int x6]) (rest := [.int v14]) hF (c_X2_peaceLeft l D cI cZ cT o a t x4 x6 x29 h30) (cwV 2 hts (gqV mw_121 mw_122 mw_123 mw_15 mw_111) rfl rfl rfl hd_X2_peaceLeft ⟨Nat.le_of_ble_eq_true rfl, Nat.le_of_ble_eq_true rfl⟩) hK hP q_T_bl (fun _ _ _ => trivial) [0, 1] rfl rfl rfl rfl hl.1 rfl (Nat.le_of_ble_eq_true rfl) dX2_hoursUntilDuel_88 ⟨Nat.zero_le _, Nat.zero_le _⟩ ?_
          refine lv_iconst (v := 1) hx hb dX2_hoursUntilDuel_91 (by decide) ?_
          refine lv_iadd hx hb dX2_hoursUntilDuel_92 ?_
          refine va_mmax hx hb (hml.trans hl.1.symm) hown (hts _ mw_71) (hts _ mw_72) (hts _ mw_28) (hts _ mw_73) (Nat.le_of_ble_eq_true rfl) (Nat.le_of_ble_eq_true rfl) (Nat.zero_le _) (Nat.zero_le _) dX2_hoursUntilDuel_93 ?_
          refine lv_istore (lv' := [(4, .int (if v14 < (x29 + (1 : Int32)) then (x29 + (1 : Int32)) else v14)), (0, .ref o), (1, .int a1), (2, .int x4), (3, .int x6)]) hx hb dX2_hoursUntilDuel_96 hl (by decide) rfl (fun ls hl => ?_)
          cases h
          exact hj _ (lv_sub hl [1, 2, 0] rfl)
    · refine lv_if_eq (tgt := 75) hx hb dX2_hoursUntilDuel_52 (by decide) (fun c31 => ?_) (fun c31 => ?_)
      · have h := xt c31 h
        cases h
        exact hj _ (lv_sub hl [3, 4, 2, 1, 0] rfl)
      · have h := xf c31 h
        refine lv_iload hx hb dX2_hoursUntilDuel_55 (lv_at hl 0 rfl) ?_
        refine lv_aload_n hx hb dX2_hoursUntilDuel_57 rfl (lv_at hl 3 rfl) ?_
        refine lv_iload_n hx hb dX2_hoursUntilDuel_58 rfl (lv_at hl 2 rfl) ?_
        obtain ⟨x32, h33, h⟩ := bE h
        refine x_RV (As := [.int x4]) (rest := [.int (if (0 : Int32) < (x8 - x10) then (x8 - x10) else (0 : Int32))]) hF (c_X2_oathLeft l D cI cZ cT o a t x4 x32 h33) (cwV 1 hts (gqV mw_118 mw_119 mw_120 mw_15 mw_70) rfl rfl rfl hd_X2_oathLeft ⟨Nat.le_of_ble_eq_true rfl, Nat.le_of_ble_eq_true rfl⟩) hK hP q_T_bl (fun _ _ _ => trivial) [0, 1] rfl rfl rfl rfl hl.1 rfl (Nat.le_of_ble_eq_true rfl) dX2_hoursUntilDuel_59 ⟨Nat.zero_le _, Nat.zero_le _⟩ ?_
        refine lv_aload_n hx hb dX2_hoursUntilDuel_62 rfl (lv_at hl 3 rfl) ?_
        refine lv_iload_n hx hb dX2_hoursUntilDuel_63 rfl (lv_at hl 1 rfl) ?_
        obtain ⟨x34, h35, h⟩ := bE h
        refine x_RV (As := [.int x6]) (rest := [.int x32, .int (if (0 : Int32) < (x8 - x10) then (x8 - x10) else (0 : Int32))]) hF (c_X2_oathLeft l D cI cZ cT o a t x6 x34 h35) (cwV 1 hts (gqV mw_118 mw_119 mw_120 mw_15 mw_70) rfl rfl rfl hd_X2_oathLeft ⟨Nat.le_of_ble_eq_true rfl, Nat.le_of_ble_eq_true rfl⟩) hK hP q_T_bl (fun _ _ _ => trivial) [0, 1] rfl rfl rfl rfl hl.1 rfl (Nat.le_of_ble_eq_true rfl) dX2_hoursUntilDuel_64 ⟨Nat.zero_le _, Nat.zero_le _⟩ ?_
        refine va_mmax hx hb (hml.trans hl.1.symm) hown (hts _ mw_71) (hts _ mw_72) (hts _ mw_28) (hts _ mw_73) (Nat.le_of_ble_eq_true rfl) (Nat.le_of_ble_eq_true rfl) (Nat.zero_le _) (Nat.zero_le _) dX2_hoursUntilDuel_67 ?_
        refine va_mmax hx hb (hml.trans hl.1.symm) hown (hts _ mw_71) (hts _ mw_72) (hts _ mw_28) (hts _ mw_73) (Nat.le_of_ble_eq_true rfl) (Nat.le_of_ble_eq_true rfl) (Nat.zero_le _) (Nat.zero_le _) dX2_hoursUntilDuel_70 ?_
        refine lv_istore (lv' := [(4, .int (if (if (0 : Int32) < (x8 - x10) then (x8 - x10) else (0 : Int32)) < (if x32 < x34 then x34 else x32) then (if x32 < x34 then x34 else x32) else (if (0 : Int32) < (x8 - x10) then (x8 - x10) else (0 : Int32)))), (3, .int x6), (2, .int x4), (0, .ref o), (1, .int a1)]) hx hb dX2_hoursUntilDuel_73 hl (by decide) rfl (fun ls hl => ?_)
        cases h
        exact hj _ (lv_sub hl [3, 4, 2, 1, 0] rfl)
  · have h := xf c3 h
    refine lv_bipush (v := (-6)) hx hb dX2_hoursUntilDuel_10 (by decide) ?_
    cases h
    exact x_retR C0 rfl dX2_hoursUntilDuel_12

/-! QuarrelWays.Town.skillOf (I)I -/
def f_X2_skillOf (t : TT) (a1 : Int32) : Option (Int32) := ((f_X2_read t (14 : Int32) a1).bind fun x1 => ((f_X2_read t (4 : Int32) a1).bind fun x3 => some (((2 : Int32) * x1) + x3)))
abbrev rm_X2_skillOf : Room := { frames := 1, cells := 0, slots := 0, locals := 23 }
theorem hd_X2_skillOf : yX2_skillOf.cls = RX2 ∧ yX2_skillOf.cls ≠ "java/lang/invoke/MethodHandle" ∧ yX2_skillOf.cls ≠ "java/lang/invoke/VarHandle" ∧ (parseMethodDescriptor yX2_skillOf.desc).map (fun d => d.parameters.length) = some 1 := by decide +kernel
set_option maxHeartbeats 4000000 in
set_option maxRecDepth 100000 in
theorem c_X2_skillOf (l : Launch) (D : va_G) (cI cZ cT : ClassId) (o a : Nat) (t : TT) (a1 : Int32) (r : Int32) (h : f_X2_skillOf t a1 = some r) : Met l yX2_skillOf (wq yX2_skillOf cX2_skillOf 2 (some .int)) rm_X2_skillOf (q_R D (q_tys cI cZ cT) (wT cI o a t) q_T [.ref o, .int a1]) (vp_Si (fun r' => r' = r)) 0 0 (fun _ => False) := by
  refine q_RI (cc := cX2_skillOf) (maxL := 2) (ret := (some .int)) (plainFor_of_name (by decide)) (Nat.le_of_ble_eq_true rfl) (fun p e s m below meth c C0 hP hK hE ls hl => ?_)
  have hl : lv_has ls 2 [(0, .ref o), (1, .int a1)] := hl
  obtain ⟨hx, hb, hr, hml, hown, hts, hlocks⟩ := id C0
  have hF : CallFix p m c cX2_skillOf 2 s _ BW RX2 := ⟨hx, hb, hml, hown, hts⟩
  rw [f_X2_skillOf] at h
  refine lv_iconst (v := 2) hx hb dX2_skillOf_0 (by decide) ?_
  refine lv_aload_n hx hb dX2_skillOf_1 rfl (lv_at hl 0 rfl) ?_
  refine lv_bipush (v := 14) hx hb dX2_skillOf_2 (by decide) ?_
  refine lv_iload_n hx hb dX2_skillOf_4 rfl (lv_at hl 1 rfl) ?_
  obtain ⟨x1, h2, h⟩ := bE h
  refine x_RV (As := [.int (14 : Int32), .int a1]) (rest := [.int (2 : Int32)]) hF (c_X2_read l D cI cZ cT o a t (14 : Int32) a1 x1 h2) (cwV 2 hts (gqV mw_65 mw_66 mw_67 mw_15 mw_61) rfl rfl rfl hd_X2_read ⟨Nat.le_of_ble_eq_true rfl, Nat.le_of_ble_eq_true rfl⟩) hK hP q_T_bl (fun _ _ _ => trivial) [0, 1] rfl rfl rfl rfl hl.1 rfl (Nat.le_of_ble_eq_true rfl) dX2_skillOf_5 ⟨Nat.zero_le _, Nat.zero_le _⟩ ?_
  refine lv_imul hx hb dX2_skillOf_8 ?_
  refine lv_aload_n hx hb dX2_skillOf_9 rfl (lv_at hl 0 rfl) ?_
  refine lv_iconst (v := 4) hx hb dX2_skillOf_10 (by decide) ?_
  refine lv_iload_n hx hb dX2_skillOf_11 rfl (lv_at hl 1 rfl) ?_
  obtain ⟨x3, h4, h⟩ := bE h
  refine x_RV (As := [.int (4 : Int32), .int a1]) (rest := [.int ((2 : Int32) * x1)]) hF (c_X2_read l D cI cZ cT o a t (4 : Int32) a1 x3 h4) (cwV 2 hts (gqV mw_65 mw_66 mw_67 mw_15 mw_61) rfl rfl rfl hd_X2_read ⟨Nat.le_of_ble_eq_true rfl, Nat.le_of_ble_eq_true rfl⟩) hK hP q_T_bl (fun _ _ _ => trivial) [0, 1] rfl rfl rfl rfl hl.1 rfl (Nat.le_of_ble_eq_true rfl) dX2_skillOf_12 ⟨Nat.zero_le _, Nat.zero_le _⟩ ?_
  refine lv_iadd hx hb dX2_skillOf_15 ?_
  cases h
  exact x_retR C0 rfl dX2_skillOf_16

/-! QuarrelWays.Town.winnerOf (I)I -/
def f_X2_winnerOf (t : TT) (a1 : Int32) : Option (Int32) := ((f_X2_read t (44 : Int32) a1).bind fun x1 => ((f_X2_read t (56 : Int32) a1).bind fun x3 => ((f_X2_skillOf t x1).bind fun x5 => ((f_X2_skillOf t x3).bind fun x7 => (if x5 ≤ x7 then some x3 else some x1)))))
abbrev rm_X2_winnerOf : Room := { frames := 2, cells := 0, slots := 0, locals := 44 }
theorem hd_X2_winnerOf : yX2_winnerOf.cls = RX2 ∧ yX2_winnerOf.cls ≠ "java/lang/invoke/MethodHandle" ∧ yX2_winnerOf.cls ≠ "java/lang/invoke/VarHandle" ∧ (parseMethodDescriptor yX2_winnerOf.desc).map (fun d => d.parameters.length) = some 1 := by decide +kernel
set_option maxHeartbeats 4000000 in
set_option maxRecDepth 100000 in
theorem c_X2_winnerOf (l : Launch) (D : va_G) (cI cZ cT : ClassId) (o a : Nat) (t : TT) (a1 : Int32) (r : Int32) (h : f_X2_winnerOf t a1 = some r) : Met l yX2_winnerOf (wq yX2_winnerOf cX2_winnerOf 4 (some .int)) rm_X2_winnerOf (q_R D (q_tys cI cZ cT) (wT cI o a t) q_T [.ref o, .int a1]) (vp_Si (fun r' => r' = r)) 0 0 (fun _ => False) := by
  refine q_RI (cc := cX2_winnerOf) (maxL := 4) (ret := (some .int)) (plainFor_of_name (by decide)) (Nat.le_of_ble_eq_true rfl) (fun p e s m below meth c C0 hP hK hE ls hl => ?_)
  have hl : lv_has ls 4 [(0, .ref o), (1, .int a1)] := hl
  obtain ⟨hx, hb, hr, hml, hown, hts, hlocks⟩ := id C0
  have hF : CallFix p m c cX2_winnerOf 4 s _ BW RX2 := ⟨hx, hb, hml, hown, hts⟩
  rw [f_X2_winnerOf] at h
  refine lv_aload_n hx hb dX2_winnerOf_0 rfl (lv_at hl 0 rfl) ?_
  refine lv_bipush (v := 44) hx hb dX2_winnerOf_1 (by decide) ?_
  refine lv_iload_n hx hb dX2_winnerOf_3 rfl (lv_at hl 1 rfl) ?_
  obtain ⟨x1, h2, h⟩ := bE h
  refine x_RV (As := [.int (44 : Int32), .int a1]) (rest := []) hF (c_X2_read l D cI cZ cT o a t (44 : Int32) a1 x1 h2) (cwV 2 hts (gqV mw_65 mw_66 mw_67 mw_15 mw_61) rfl rfl rfl hd_X2_read ⟨Nat.le_of_ble_eq_true rfl, Nat.le_of_ble_eq_true rfl⟩) hK hP q_T_bl (fun _ _ _ => trivial) [0, 1] rfl rfl rfl rfl hl.1 rfl (Nat.le_of_ble_eq_true rfl) dX2_winnerOf_4 ⟨Nat.zero_le _, Nat.zero_le _⟩ ?_
  refine lv_istore_n (lv' := [(2, .int x1), (0, .ref o), (1, .int a1)]) hx hb dX2_winnerOf_7 rfl hl (by decide) rfl (fun ls hl => ?_)
  refine lv_aload_n hx hb dX2_winnerOf_8 rfl (lv_at hl 1 rfl) ?_
  refine lv_bipush (v := 56) hx hb dX2_winnerOf_9 (by decide) ?_
  refine lv_iload_n hx hb dX2_winnerOf_11 rfl (lv_at hl 2 rfl) ?_
  obtain ⟨x3, h4, h⟩ := bE h
  refine x_RV (As := [.int (56 : Int32), .int a1]) (rest := []) hF (c_X2_read l D cI cZ cT o a t (56 : Int32) a1 x3 h4) (cwV 2 hts (gqV mw_65 mw_66 mw_67 mw_15 mw_61) rfl rfl rfl hd_X2_read ⟨Nat.le_of_ble_eq_true rfl, Nat.le_of_ble_eq_true rfl⟩) hK hP q_T_bl (fun _ _ _ => trivial) [0, 1] rfl rfl rfl rfl hl.1 rfl (Nat.le_of_ble_eq_true rfl) dX2_winnerOf_12 ⟨Nat.zero_le _, Nat.zero_le _⟩ ?_
  refine lv_istore_n (lv' := [(3, .int x3), (2, .int x1), (0, .ref o), (1, .int a1)]) hx hb dX2_winnerOf_15 rfl hl (by decide) rfl (fun ls hl => ?_)
  refine lv_aload_n hx hb dX2_winnerOf_16 rfl (lv_at hl 2 rfl) ?_
  refine lv_iload_n hx hb dX2_winnerOf_17 rfl (lv_at hl 1 rfl) ?_
  obtain ⟨x5, h6, h⟩ := bE h
  refine x_RV (As := [.int x1]) (rest := []) hF (c_X2_skillOf l D cI cZ cT o a t x1 x5 h6) (cwV 1 hts (gqV mw_150 mw_151 mw_152 mw_15 mw_148) rfl rfl rfl hd_X2_skillOf ⟨Nat.le_of_ble_eq_true rfl, Nat.le_of_ble_eq_true rfl⟩) hK hP q_T_bl (fun _ _ _ => trivial) [0, 1] rfl rfl rfl rfl hl.1 rfl (Nat.le_of_ble_eq_true rfl) dX2_winnerOf_18 ⟨Nat.zero_le _, Nat.zero_le _⟩ ?_
  refine lv_aload_n hx hb dX2_winnerOf_21 rfl (lv_at hl 2 rfl) ?_
  refine lv_iload_n hx hb dX2_winnerOf_22 rfl (lv_at hl 0 rfl) ?_
  obtain ⟨x7, h8, h⟩ := bE h
  refine x_RV (As := [.int x3]) (rest := [.int x5]) hF (c_X2_skillOf l D cI cZ cT o a t x3 x7 h8) (cwV 1 hts (gqV mw_150 mw_151 mw_152 mw_15 mw_148) rfl rfl rfl hd_X2_skillOf ⟨Nat.le_of_ble_eq_true rfl, Nat.le_of_ble_eq_true rfl⟩) hK hP q_T_bl (fun _ _ _ => trivial) [0, 1] rfl rfl rfl rfl hl.1 rfl (Nat.le_of_ble_eq_true rfl) dX2_winnerOf_23 ⟨Nat.zero_le _, Nat.zero_le _⟩ ?_
  refine lv_icmp_le (tgt := 33) hx hb dX2_winnerOf_26 (by decide) (fun c9 => ?_) (fun c9 => ?_)
  · have h := xt c9 h
    refine lv_iload_n hx hb dX2_winnerOf_33 rfl (lv_at hl 0 rfl) ?_
    cases h
    exact x_retR C0 rfl dX2_winnerOf_34
  · have h := xf c9 h
    refine lv_iload_n hx hb dX2_winnerOf_29 rfl (lv_at hl 1 rfl) ?_
    refine lv_goto (tgt := 34) hx hb dX2_winnerOf_30 (by decide) ?_
    cases h
    exact x_retR C0 rfl dX2_winnerOf_34

/-! QuarrelWays.Town.quarrelsWith (II)I -/
def f_X2_quarrelsWith_L5 (z0 : TT) (y1 : Int32) (y2 : Int32) : Nat → Int32 → Int32 → Option (Int32)
  | 0, _, _ => none
  | n + 1, y3, y4 => (if z0.2.2.2.1 ≤ y4 then some y3 else ((f_X2_read z0 y1 y4).bind fun x2 => (if x2 = y2 then f_X2_quarrelsWith_L5 z0 y1 y2 n (y3 + (1 : Int32)) (y4 + (1 : Int32)) else f_X2_quarrelsWith_L5 z0 y1 y2 n y3 (y4 + (1 : Int32)))))
def f_X2_quarrelsWith (t : TT) (a1 : Int32) (a2 : Int32) : Option (Int32) := ((f_X2_quarrelsWith_L5 t a1 a2 2000 (0 : Int32) (0 : Int32)).bind fun v5 => some v5)
abbrev rm_X2_quarrelsWith : Room := { frames := 1, cells := 0, slots := 0, locals := 23 }
theorem hd_X2_quarrelsWith : yX2_quarrelsWith.cls = RX2 ∧ yX2_quarrelsWith.cls ≠ "java/lang/invoke/MethodHandle" ∧ yX2_quarrelsWith.cls ≠ "java/lang/invoke/VarHandle" ∧ (parseMethodDescriptor yX2_quarrelsWith.desc).map (fun d => d.parameters.length) = some 2 := by decide +kernel
set_option maxHeartbeats 4000000 in
set_option maxRecDepth 100000 in
theorem k_X2_quarrelsWith_L5 {Q : State → Prop} {v : Int32} (o a : Nat) (z0 : TT) (y1 : Int32) (y2 : Int32) (C0 : q_At p s m args meth c cX2_quarrelsWith 5 (some .int) RX2) (hK : va_K D vwCl (q_tys cI cZ cT) s) (hP : va_P D vwCl (wT cI o a z0) s.heap) (hj : ∀ (ls : Array Slot), lv_has ls 5 [(3, .int v)] → W p l e rm_X2_quarrelsWith s m args below meth c s.heap [] 0 0 Q (F0 m 34 ls [])) : ∀ (n : Nat) (y3 : Int32) (y4 : Int32) (ls : Array Slot), lv_has ls 5 [(0, .ref o), (1, .int y1), (2, .int y2), (3, .int y3), (4, .int y4)] → f_X2_quarrelsWith_L5 z0 y1 y2 n y3 y4 = some v → W p l e rm_X2_quarrelsWith s m args below meth c s.heap [] 0 0 (Q) (F0 m 5 ls []) := by
  obtain ⟨hx, hb, hr, hml, hown, hts, hlocks⟩ := id C0
  have hF : CallFix p m c cX2_quarrelsWith 5 s args BW RX2 := ⟨hx, hb, hml, hown, hts⟩
  intro n
  induction n with
  | zero =>
    intro y3 y4 ls hl h
    rw [f_X2_quarrelsWith_L5] at h
    cases h
  | succ n ih =>
    intro y3 y4 ls hl h
    rw [f_X2_quarrelsWith_L5] at h
    refine lv_iload hx hb dX2_quarrelsWith_5 (lv_at hl 4 rfl) ?_
    refine lv_aload_n hx hb dX2_quarrelsWith_7 rfl (lv_at hl 0 rfl) ?_
    refine va_get (D := D) (v := .int z0.2.2.2.1) (C := RX2) (T := TX2) (N := 6) hx hb hts iw_X2 hown hK hP 0 rfl rfl 3 (by decide) (hts _ mw_9) (fun _ h9 => h9) rfl dX2_quarrelsWith_8 ?_
    refine lv_icmp_ge (tgt := 34) hx hb dX2_quarrelsWith_11 (by decide) (fun c1 => ?_) (fun c1 => ?_)
    · have h := xt c1 h
      cases h
      exact hj _ (lv_sub hl [3] rfl)
    · have h := xf c1 h
      refine lv_aload_n hx hb dX2_quarrelsWith_14 rfl (lv_at hl 0 rfl) ?_
      refine lv_iload_n hx hb dX2_quarrelsWith_15 rfl (lv_at hl 1 rfl) ?_
      refine lv_iload hx hb dX2_quarrelsWith_16 (lv_at hl 4 rfl) ?_
      obtain ⟨x2, h3, h⟩ := bE h
      refine x_RV (As := [.int y1, .int y4]) (rest := []) hF (c_X2_read l D cI cZ cT o a z0 y1 y4 x2 h3) (cwV 2 hts (gqV mw_65 mw_66 mw_67 mw_15 mw_61) rfl rfl rfl hd_X2_read ⟨Nat.le_of_ble_eq_true rfl, Nat.le_of_ble_eq_true rfl⟩) hK hP q_T_bl (fun _ _ _ => trivial) [0, 1] rfl rfl rfl rfl hl.1 rfl (Nat.le_of_ble_eq_true rfl) dX2_quarrelsWith_18 ⟨Nat.zero_le _, Nat.zero_le _⟩ ?_
      refine lv_iload_n hx hb dX2_quarrelsWith_21 rfl (lv_at hl 2 rfl) ?_
      refine lv_icmp_ne (tgt := 28) hx hb dX2_quarrelsWith_22 (by decide) (fun c4 => ?_) (fun c4 => ?_)
      · have h := xf c4 h
        refine lv_iinc (v := (y4 + (1 : Int32))) (lv' := [(4, .int (y4 + (1 : Int32))), (0, .ref o), (1, .int y1), (2, .int y2), (3, .int y3)]) hx hb dX2_quarrelsWith_28 hl (k := 4) rfl rfl (by decide) rfl (fun ls hl => ?_)
        refine lv_goto (tgt := 5) hx hb dX2_quarrelsWith_31 (by decide) ?_
        exact ih y3 (y4 + (1 : Int32)) _ (lv_sub hl [1, 2, 3, 4, 0] rfl) h
      · have h := xt c4 h
        refine lv_iinc (v := (y3 + (1 : Int32))) (lv' := [(3, .int (y3 + (1 : Int32))), (0, .ref o), (1, .int y1), (2, .int y2), (4, .int y4)]) hx hb dX2_quarrelsWith_25 hl (k := 3) rfl rfl (by decide) rfl (fun ls hl => ?_)
        refine lv_iinc (v := (y4 + (1 : Int32))) (lv' := [(4, .int (y4 + (1 : Int32))), (3, .int (y3 + (1 : Int32))), (0, .ref o), (1, .int y1), (2, .int y2)]) hx hb dX2_quarrelsWith_28 hl (k := 4) rfl rfl (by decide) rfl (fun ls hl => ?_)
        refine lv_goto (tgt := 5) hx hb dX2_quarrelsWith_31 (by decide) ?_
        exact ih (y3 + (1 : Int32)) (y4 + (1 : Int32)) _ (lv_sub hl [2, 3, 4, 1, 0] rfl) h
set_option maxHeartbeats 4000000 in
set_option maxRecDepth 100000 in
theorem c_X2_quarrelsWith (l : Launch) (D : va_G) (cI cZ cT : ClassId) (o a : Nat) (t : TT) (a1 : Int32) (a2 : Int32) (r : Int32) (h : f_X2_quarrelsWith t a1 a2 = some r) : Met l yX2_quarrelsWith (wq yX2_quarrelsWith cX2_quarrelsWith 5 (some .int)) rm_X2_quarrelsWith (q_R D (q_tys cI cZ cT) (wT cI o a t) q_T [.ref o, .int a1, .int a2]) (vp_Si (fun r' => r' = r)) 0 0 (fun _ => False) := by
  refine q_RI (cc := cX2_quarrelsWith) (maxL := 5) (ret := (some .int)) (plainFor_of_name (by decide)) (Nat.le_of_ble_eq_true rfl) (fun p e s m below meth c C0 hP hK hE ls hl => ?_)
  have hl : lv_has ls 5 [(0, .ref o), (1, .int a1), (2, .int a2)] := hl
  obtain ⟨hx, hb, hr, hml, hown, hts, hlocks⟩ := id C0
  have hF : CallFix p m c cX2_quarrelsWith 5 s _ BW RX2 := ⟨hx, hb, hml, hown, hts⟩
  rw [f_X2_quarrelsWith] at h
  refine lv_iconst (v := 0) hx hb dX2_quarrelsWith_0 (by decide) ?_
  refine lv_istore_n (lv' := [(3, .int (0 : Int32)), (0, .ref o), (1, .int a1), (2, .int a2)]) hx hb dX2_quarrelsWith_1 rfl hl (by decide) rfl (fun ls hl => ?_)
  refine lv_iconst (v := 0) hx hb dX2_quarrelsWith_2 (by decide) ?_
  refine lv_istore (lv' := [(4, .int (0 : Int32)), (3, .int (0 : Int32)), (0, .ref o), (1, .int a1), (2, .int a2)]) hx hb dX2_quarrelsWith_3 hl (by decide) rfl (fun ls hl => ?_)
  obtain ⟨v5, h6, h⟩ := bE h
  refine k_X2_quarrelsWith_L5 (v := v5) o a t a1 a2 C0 hK hP (fun ls hl => ?_) 2000 (0 : Int32) (0 : Int32) _ (lv_sub hl [2, 3, 4, 1, 0] rfl) h6
  refine lv_iload_n hx hb dX2_quarrelsWith_34 rfl (lv_at hl 0 rfl) ?_
  cases h
  exact x_retR C0 rfl dX2_quarrelsWith_35

/-! QuarrelWays.Town.duelsOf (I)I -/
def f_X2_duelsOf_L4 (z0 : TT) (y1 : Int32) : Nat → Int32 → Int32 → Option (Int32)
  | 0, _, _ => none
  | n + 1, y2, y3 => (if z0.2.2.2.1 ≤ y3 then some y2 else ((f_X2_read z0 (44 : Int32) y3).bind fun x2 => (((if x2 = y1 then some (1 : Int32) else ((f_X2_read z0 (56 : Int32) y3).bind fun x10 => (if x10 = y1 then some (1 : Int32) else some (0 : Int32)))) : Option (Int32)).bind fun v4 => (if v4 = 0 then f_X2_duelsOf_L4 z0 y1 n y2 (y3 + (1 : Int32)) else ((f_X2_read z0 (92 : Int32) y3).bind fun x6 => (if x6 = (2 : Int32) then f_X2_duelsOf_L4 z0 y1 n (y2 + (1 : Int32)) (y3 + (1 : Int32)) else f_X2_duelsOf_L4 z0 y1 n y2 (y3 + (1 : Int32))))))))
def f_X2_duelsOf (t : TT) (a1 : Int32) : Option (Int32) := ((f_X2_duelsOf_L4 t a1 2000 (0 : Int32) (0 : Int32)).bind fun v13 => some v13)
abbrev rm_X2_duelsOf : Room := { frames := 1, cells := 0, slots := 0, locals := 23 }
theorem hd_X2_duelsOf : yX2_duelsOf.cls = RX2 ∧ yX2_duelsOf.cls ≠ "java/lang/invoke/MethodHandle" ∧ yX2_duelsOf.cls ≠ "java/lang/invoke/VarHandle" ∧ (parseMethodDescriptor yX2_duelsOf.desc).map (fun d => d.parameters.length) = some 1 := by decide +kernel
set_option maxHeartbeats 4000000 in
set_option maxRecDepth 100000 in
theorem k_X2_duelsOf_L4 {Q : State → Prop} {v : Int32} (o a : Nat) (z0 : TT) (y1 : Int32) (C0 : q_At p s m args meth c cX2_duelsOf 5 (some .int) RX2) (hK : va_K D vwCl (q_tys cI cZ cT) s) (hP : va_P D vwCl (wT cI o a z0) s.heap) (hj : ∀ (ls : Array Slot), lv_has ls 5 [(2, .int v)] → W p l e rm_X2_duelsOf s m args below meth c s.heap [] 0 0 Q (F0 m 66 ls [])) : ∀ (n : Nat) (y2 : Int32) (y3 : Int32) (ls : Array Slot), lv_has ls 5 [(0, .ref o), (1, .int y1), (2, .int y2), (3, .int y3)] → f_X2_duelsOf_L4 z0 y1 n y2 y3 = some v → W p l e rm_X2_duelsOf s m args below meth c s.heap [] 0 0 (Q) (F0 m 4 ls []) := by
  obtain ⟨hx, hb, hr, hml, hown, hts, hlocks⟩ := id C0
  have hF : CallFix p m c cX2_duelsOf 5 s args BW RX2 := ⟨hx, hb, hml, hown, hts⟩
  intro n
  induction n with
  | zero =>
    intro y2 y3 ls hl h
    rw [f_X2_duelsOf_L4] at h
    cases h
  | succ n ih =>
    intro y2 y3 ls hl h
    rw [f_X2_duelsOf_L4] at h
    refine lv_iload_n hx hb dX2_duelsOf_4 rfl (lv_at hl 3 rfl) ?_
    refine lv_aload_n hx hb dX2_duelsOf_5 rfl (lv_at hl 0 rfl) ?_
    refine va_get (D := D) (v := .int z0.2.2.2.1) (C := RX2) (T := TX2) (N := 6) hx hb hts iw_X2 hown hK hP 0 rfl rfl 3 (by decide) (hts _ mw_9) (fun _ h9 => h9) rfl dX2_duelsOf_6 ?_
    refine lv_icmp_ge (tgt := 66) hx hb dX2_duelsOf_9 (by decide) (fun c1 => ?_) (fun c1 => ?_)
    · have h := xt c1 h
      cases h
      exact hj _ (lv_sub hl [2] rfl)
    · have h := xf c1 h
      refine lv_aload_n hx hb dX2_duelsOf_12 rfl (lv_at hl 0 rfl) ?_
      refine lv_bipush (v := 44) hx hb dX2_duelsOf_13 (by decide) ?_
      refine lv_iload_n hx hb dX2_duelsOf_15 rfl (lv_at hl 3 rfl) ?_
      obtain ⟨x2, h3, h⟩ := bE h
      refine x_RV (As := [.int (44 : Int32), .int y3]) (rest := []) hF (c_X2_read l D cI cZ cT o a z0 (44 : Int32) y3 x2 h3) (cwV 2 hts (gqV mw_65 mw_66 mw_67 mw_15 mw_61) rfl rfl rfl hd_X2_read ⟨Nat.le_of_ble_eq_true rfl, Nat.le_of_ble_eq_true rfl⟩) hK hP q_T_bl (fun _ _ _ => trivial) [0, 1] rfl rfl rfl rfl hl.1 rfl (Nat.le_of_ble_eq_true rfl) dX2_duelsOf_16 ⟨Nat.zero_le _, Nat.zero_le _⟩ ?_
      refine lv_iload_n hx hb dX2_duelsOf_19 rfl (lv_at hl 1 rfl) ?_
      refine x_j (V := Int32) (nL := 5) (fun v4 => [(0, .ref o), (1, .int y1), (2, .int y2), (3, .int y3)]) 39 (fun v4 => [.int v4]) h (fun v4 h ls hl => ?_) (fun v4 h hj => ?_)
      · refine lv_istore (lv' := [(4, .int v4), (0, .ref o), (1, .int y1), (2, .int y2), (3, .int y3)]) hx hb dX2_duelsOf_39 hl (by decide) rfl (fun ls hl => ?_)
        refine lv_iload hx hb dX2_duelsOf_41 (lv_at hl 0 rfl) ?_
        refine lv_if_eq (tgt := 60) hx hb dX2_duelsOf_43 (by decide) (fun c5 => ?_) (fun c5 => ?_)
        · have h := xt c5 h
          refine lv_iinc (v := (y3 + (1 : Int32))) (lv' := [(3, .int (y3 + (1 : Int32))), (4, .int v4), (0, .ref o), (1, .int y1), (2, .int y2)]) hx hb dX2_duelsOf_60 hl (k := 4) rfl rfl (by decide) rfl (fun ls hl => ?_)
          refine lv_goto (tgt := 4) hx hb dX2_duelsOf_63 (by decide) ?_
          exact ih y2 (y3 + (1 : Int32)) _ (lv_sub hl [2, 3, 4, 0] rfl) h
        · have h := xf c5 h
          refine lv_aload_n hx hb dX2_duelsOf_46 rfl (lv_at hl 1 rfl) ?_
          refine lv_bipush (v := 92) hx hb dX2_duelsOf_47 (by decide) ?_
          refine lv_iload_n hx hb dX2_duelsOf_49 rfl (lv_at hl 4 rfl) ?_
          obtain ⟨x6, h7, h⟩ := bE h
          refine x_RV (As := [.int (92 : Int32), .int y3]) (rest := []) hF (c_X2_read l D cI cZ cT o a z0 (92 : Int32) y3 x6 h7) (cwV 2 hts (gqV mw_65 mw_66 mw_67 mw_15 mw_61) rfl rfl rfl hd_X2_read ⟨Nat.le_of_ble_eq_true rfl, Nat.le_of_ble_eq_true rfl⟩) hK hP q_T_bl (fun _ _ _ => trivial) [0, 1] rfl rfl rfl rfl hl.1 rfl (Nat.le_of_ble_eq_true rfl) dX2_duelsOf_50 ⟨Nat.zero_le _, Nat.zero_le _⟩ ?_
          refine lv_iconst (v := 2) hx hb dX2_duelsOf_53 (by decide) ?_
          refine lv_icmp_ne (tgt := 60) hx hb dX2_duelsOf_54 (by decide) (fun c8 => ?_) (fun c8 => ?_)
          · have h := xf c8 h
            refine lv_iinc (v := (y3 + (1 : Int32))) (lv' := [(3, .int (y3 + (1 : Int32))), (4, .int v4), (0, .ref o), (1, .int y1), (2, .int y2)]) hx hb dX2_duelsOf_60 hl (k := 4) rfl rfl (by decide) rfl (fun ls hl => ?_)
            refine lv_goto (tgt := 4) hx hb dX2_duelsOf_63 (by decide) ?_
            exact ih y2 (y3 + (1 : Int32)) _ (lv_sub hl [2, 3, 4, 0] rfl) h
          · have h := xt c8 h
            refine lv_iinc (v := (y2 + (1 : Int32))) (lv' := [(2, .int (y2 + (1 : Int32))), (4, .int v4), (0, .ref o), (1, .int y1), (3, .int y3)]) hx hb dX2_duelsOf_57 hl (k := 3) rfl rfl (by decide) rfl (fun ls hl => ?_)
            refine lv_iinc (v := (y3 + (1 : Int32))) (lv' := [(3, .int (y3 + (1 : Int32))), (2, .int (y2 + (1 : Int32))), (4, .int v4), (0, .ref o), (1, .int y1)]) hx hb dX2_duelsOf_60 hl (k := 4) rfl rfl (by decide) rfl (fun ls hl => ?_)
            refine lv_goto (tgt := 4) hx hb dX2_duelsOf_63 (by decide) ?_
            exact ih (y2 + (1 : Int32)) (y3 + (1 : Int32)) _ (lv_sub hl [3, 4, 1, 0] rfl) h
      · refine lv_icmp_eq (tgt := 34) hx hb dX2_duelsOf_20 (by decide) (fun c9 => ?_) (fun c9 => ?_)
        · have h := xt c9 h
          refine lv_iconst (v := 1) hx hb dX2_duelsOf_34 (by decide) ?_
          refine lv_goto (tgt := 39) hx hb dX2_duelsOf_35 (by decide) ?_
          cases h
          exact hj _ (lv_sub hl [0, 1, 2, 3] rfl)
        · have h := xf c9 h
          refine lv_aload_n hx hb dX2_duelsOf_23 rfl (lv_at hl 0 rfl) ?_
          refine lv_bipush (v := 56) hx hb dX2_duelsOf_24 (by decide) ?_
          refine lv_iload_n hx hb dX2_duelsOf_26 rfl (lv_at hl 3 rfl) ?_
          obtain ⟨x10, h11, h⟩ := bE h
          refine x_RV (As := [.int (56 : Int32), .int y3]) (rest := []) hF (c_X2_read l D cI cZ cT o a z0 (56 : Int32) y3 x10 h11) (cwV 2 hts (gqV mw_65 mw_66 mw_67 mw_15 mw_61) rfl rfl rfl hd_X2_read ⟨Nat.le_of_ble_eq_true rfl, Nat.le_of_ble_eq_true rfl⟩) hK hP q_T_bl (fun _ _ _ => trivial) [0, 1] rfl rfl rfl rfl hl.1 rfl (Nat.le_of_ble_eq_true rfl) dX2_duelsOf_27 ⟨Nat.zero_le _, Nat.zero_le _⟩ ?_
          refine lv_iload_n hx hb dX2_duelsOf_30 rfl (lv_at hl 1 rfl) ?_
          refine lv_icmp_ne (tgt := 38) hx hb dX2_duelsOf_31 (by decide) (fun c12 => ?_) (fun c12 => ?_)
          · have h := xf c12 h
            refine lv_iconst (v := 0) hx hb dX2_duelsOf_38 (by decide) ?_
            cases h
            exact hj _ (lv_sub hl [0, 1, 2, 3] rfl)
          · have h := xt c12 h
            refine lv_iconst (v := 1) hx hb dX2_duelsOf_34 (by decide) ?_
            refine lv_goto (tgt := 39) hx hb dX2_duelsOf_35 (by decide) ?_
            cases h
            exact hj _ (lv_sub hl [0, 1, 2, 3] rfl)
set_option maxHeartbeats 4000000 in
set_option maxRecDepth 100000 in
theorem c_X2_duelsOf (l : Launch) (D : va_G) (cI cZ cT : ClassId) (o a : Nat) (t : TT) (a1 : Int32) (r : Int32) (h : f_X2_duelsOf t a1 = some r) : Met l yX2_duelsOf (wq yX2_duelsOf cX2_duelsOf 5 (some .int)) rm_X2_duelsOf (q_R D (q_tys cI cZ cT) (wT cI o a t) q_T [.ref o, .int a1]) (vp_Si (fun r' => r' = r)) 0 0 (fun _ => False) := by
  refine q_RI (cc := cX2_duelsOf) (maxL := 5) (ret := (some .int)) (plainFor_of_name (by decide)) (Nat.le_of_ble_eq_true rfl) (fun p e s m below meth c C0 hP hK hE ls hl => ?_)
  have hl : lv_has ls 5 [(0, .ref o), (1, .int a1)] := hl
  obtain ⟨hx, hb, hr, hml, hown, hts, hlocks⟩ := id C0
  have hF : CallFix p m c cX2_duelsOf 5 s _ BW RX2 := ⟨hx, hb, hml, hown, hts⟩
  rw [f_X2_duelsOf] at h
  refine lv_iconst (v := 0) hx hb dX2_duelsOf_0 (by decide) ?_
  refine lv_istore_n (lv' := [(2, .int (0 : Int32)), (0, .ref o), (1, .int a1)]) hx hb dX2_duelsOf_1 rfl hl (by decide) rfl (fun ls hl => ?_)
  refine lv_iconst (v := 0) hx hb dX2_duelsOf_2 (by decide) ?_
  refine lv_istore_n (lv' := [(3, .int (0 : Int32)), (2, .int (0 : Int32)), (0, .ref o), (1, .int a1)]) hx hb dX2_duelsOf_3 rfl hl (by decide) rfl (fun ls hl => ?_)
  obtain ⟨v13, h14, h⟩ := bE h
  refine k_X2_duelsOf_L4 (v := v13) o a t a1 C0 hK hP (fun ls hl => ?_) 2000 (0 : Int32) (0 : Int32) _ (lv_sub hl [2, 3, 1, 0] rfl) h14
  refine lv_iload_n hx hb dX2_duelsOf_66 rfl (lv_at hl 0 rfl) ?_
  cases h
  exact x_retR C0 rfl dX2_duelsOf_67

/-! QuarrelWays.Town.personsWithSecond (I)I -/
def f_X2_personsWithSecond_L4 (z0 : TT) (y1 : Int32) : Nat → Int32 → Int32 → Option (Int32)
  | 0, _, _ => none
  | n + 1, y2, y3 => (if z0.2.2.1 ≤ y3 then some y2 else ((f_X2_read z0 (24 : Int32) y3).bind fun x2 => (if x2 = y1 then f_X2_personsWithSecond_L4 z0 y1 n (y2 ||| ((1 : Int32) <<< (y3 &&& 31))) (y3 + (1 : Int32)) else f_X2_personsWithSecond_L4 z0 y1 n y2 (y3 + (1 : Int32)))))
def f_X2_personsWithSecond (t : TT) (a1 : Int32) : Option (Int32) := ((f_X2_personsWithSecond_L4 t a1 2000 (0 : Int32) (0 : Int32)).bind fun v5 => some v5)
abbrev rm_X2_personsWithSecond : Room := { frames := 1, cells := 0, slots := 0, locals := 23 }
theorem hd_X2_personsWithSecond : yX2_personsWithSecond.cls = RX2 ∧ yX2_personsWithSecond.cls ≠ "java/lang/invoke/MethodHandle" ∧ yX2_personsWithSecond.cls ≠ "java/lang/invoke/VarHandle" ∧ (parseMethodDescriptor yX2_personsWithSecond.desc).map (fun d => d.parameters.length) = some 1 := by decide +kernel
set_option maxHeartbeats 4000000 in
set_option maxRecDepth 100000 in
theorem k_X2_personsWithSecond_L4 {Q : State → Prop} {v : Int32} (o a : Nat) (z0 : TT) (y1 : Int32) (C0 : q_At p s m args meth c cX2_personsWithSecond 4 (some .int) RX2) (hK : va_K D vwCl (q_tys cI cZ cT) s) (hP : va_P D vwCl (wT cI o a z0) s.heap) (hj : ∀ (ls : Array Slot), lv_has ls 4 [(2, .int v)] → W p l e rm_X2_personsWithSecond s m args below meth c s.heap [] 0 0 Q (F0 m 35 ls [])) : ∀ (n : Nat) (y2 : Int32) (y3 : Int32) (ls : Array Slot), lv_has ls 4 [(0, .ref o), (1, .int y1), (2, .int y2), (3, .int y3)] → f_X2_personsWithSecond_L4 z0 y1 n y2 y3 = some v → W p l e rm_X2_personsWithSecond s m args below meth c s.heap [] 0 0 (Q) (F0 m 4 ls []) := by
  obtain ⟨hx, hb, hr, hml, hown, hts, hlocks⟩ := id C0
  have hF : CallFix p m c cX2_personsWithSecond 4 s args BW RX2 := ⟨hx, hb, hml, hown, hts⟩
  intro n
  induction n with
  | zero =>
    intro y2 y3 ls hl h
    rw [f_X2_personsWithSecond_L4] at h
    cases h
  | succ n ih =>
    intro y2 y3 ls hl h
    rw [f_X2_personsWithSecond_L4] at h
    refine lv_iload_n hx hb dX2_personsWithSecond_4 rfl (lv_at hl 3 rfl) ?_
    refine lv_aload_n hx hb dX2_personsWithSecond_5 rfl (lv_at hl 0 rfl) ?_
    refine va_get (D := D) (v := .int z0.2.2.1) (C := RX2) (T := TX2) (N := 6) hx hb hts iw_X2 hown hK hP 0 rfl rfl 2 (by decide) (hts _ mw_8) (fun _ h9 => h9) rfl dX2_personsWithSecond_6 ?_
    refine lv_icmp_ge (tgt := 35) hx hb dX2_personsWithSecond_9 (by decide) (fun c1 => ?_) (fun c1 => ?_)
    · have h := xt c1 h
      cases h
      exact hj _ (lv_sub hl [2] rfl)
    · have h := xf c1 h
      refine lv_aload_n hx hb dX2_personsWithSecond_12 rfl (lv_at hl 0 rfl) ?_
      refine lv_bipush (v := 24) hx hb dX2_personsWithSecond_13 (by decide) ?_
      refine lv_iload_n hx hb dX2_personsWithSecond_15 rfl (lv_at hl 3 rfl) ?_
      obtain ⟨x2, h3, h⟩ := bE h
      refine x_RV (As := [.int (24 : Int32), .int y3]) (rest := []) hF (c_X2_read l D cI cZ cT o a z0 (24 : Int32) y3 x2 h3) (cwV 2 hts (gqV mw_65 mw_66 mw_67 mw_15 mw_61) rfl rfl rfl hd_X2_read ⟨Nat.le_of_ble_eq_true rfl, Nat.le_of_ble_eq_true rfl⟩) hK hP q_T_bl (fun _ _ _ => trivial) [0, 1] rfl rfl rfl rfl hl.1 rfl (Nat.le_of_ble_eq_true rfl) dX2_personsWithSecond_16 ⟨Nat.zero_le _, Nat.zero_le _⟩ ?_
      refine lv_iload_n hx hb dX2_personsWithSecond_19 rfl (lv_at hl 1 rfl) ?_
      refine lv_icmp_ne (tgt := 29) hx hb dX2_personsWithSecond_20 (by decide) (fun c4 => ?_) (fun c4 => ?_)
      · have h := xf c4 h
        refine lv_iinc (v := (y3 + (1 : Int32))) (lv' := [(3, .int (y3 + (1 : Int32))), (0, .ref o), (1, .int y1), (2, .int y2)]) hx hb dX2_personsWithSecond_29 hl (k := 3) rfl rfl (by decide) rfl (fun ls hl => ?_)
        refine lv_goto (tgt := 4) hx hb dX2_personsWithSecond_32 (by decide) ?_
        exact ih y2 (y3 + (1 : Int32)) _ (lv_sub hl [1, 2, 3, 0] rfl) h
      · have h := xt c4 h
        refine lv_iload_n hx hb dX2_personsWithSecond_23 rfl (lv_at hl 2 rfl) ?_
        refine lv_iconst (v := 1) hx hb dX2_personsWithSecond_24 (by decide) ?_
        refine lv_iload_n hx hb dX2_personsWithSecond_25 rfl (lv_at hl 3 rfl) ?_
        refine lv_ishl hx hb dX2_personsWithSecond_26 ?_
        refine lv_ior hx hb dX2_personsWithSecond_27 ?_
        refine lv_istore_n (lv' := [(2, .int (y2 ||| ((1 : Int32) <<< (y3 &&& 31)))), (0, .ref o), (1, .int y1), (3, .int y3)]) hx hb dX2_personsWithSecond_28 rfl hl (by decide) rfl (fun ls hl => ?_)
        refine lv_iinc (v := (y3 + (1 : Int32))) (lv' := [(3, .int (y3 + (1 : Int32))), (2, .int (y2 ||| ((1 : Int32) <<< (y3 &&& 31)))), (0, .ref o), (1, .int y1)]) hx hb dX2_personsWithSecond_29 hl (k := 3) rfl rfl (by decide) rfl (fun ls hl => ?_)
        refine lv_goto (tgt := 4) hx hb dX2_personsWithSecond_32 (by decide) ?_
        exact ih (y2 ||| ((1 : Int32) <<< (y3 &&& 31))) (y3 + (1 : Int32)) _ (lv_sub hl [2, 3, 1, 0] rfl) h
set_option maxHeartbeats 4000000 in
set_option maxRecDepth 100000 in
theorem c_X2_personsWithSecond (l : Launch) (D : va_G) (cI cZ cT : ClassId) (o a : Nat) (t : TT) (a1 : Int32) (r : Int32) (h : f_X2_personsWithSecond t a1 = some r) : Met l yX2_personsWithSecond (wq yX2_personsWithSecond cX2_personsWithSecond 4 (some .int)) rm_X2_personsWithSecond (q_R D (q_tys cI cZ cT) (wT cI o a t) q_T [.ref o, .int a1]) (vp_Si (fun r' => r' = r)) 0 0 (fun _ => False) := by
  refine q_RI (cc := cX2_personsWithSecond) (maxL := 4) (ret := (some .int)) (plainFor_of_name (by decide)) (Nat.le_of_ble_eq_true rfl) (fun p e s m below meth c C0 hP hK hE ls hl => ?_)
  have hl : lv_has ls 4 [(0, .ref o), (1, .int a1)] := hl
  obtain ⟨hx, hb, hr, hml, hown, hts, hlocks⟩ := id C0
  have hF : CallFix p m c cX2_personsWithSecond 4 s _ BW RX2 := ⟨hx, hb, hml, hown, hts⟩
  rw [f_X2_personsWithSecond] at h
  refine lv_iconst (v := 0) hx hb dX2_personsWithSecond_0 (by decide) ?_
  refine lv_istore_n (lv' := [(2, .int (0 : Int32)), (0, .ref o), (1, .int a1)]) hx hb dX2_personsWithSecond_1 rfl hl (by decide) rfl (fun ls hl => ?_)
  refine lv_iconst (v := 0) hx hb dX2_personsWithSecond_2 (by decide) ?_
  refine lv_istore_n (lv' := [(3, .int (0 : Int32)), (2, .int (0 : Int32)), (0, .ref o), (1, .int a1)]) hx hb dX2_personsWithSecond_3 rfl hl (by decide) rfl (fun ls hl => ?_)
  obtain ⟨v5, h6, h⟩ := bE h
  refine k_X2_personsWithSecond_L4 (v := v5) o a t a1 C0 hK hP (fun ls hl => ?_) 2000 (0 : Int32) (0 : Int32) _ (lv_sub hl [2, 3, 1, 0] rfl) h6
  refine lv_iload_n hx hb dX2_personsWithSecond_35 rfl (lv_at hl 0 rfl) ?_
  cases h
  exact x_retR C0 rfl dX2_personsWithSecond_36

/-! QuarrelWays.Town.pressureOf (I)I -/
def f_X2_pressureOf (t : TT) (a1 : Int32) : Option (Int32) := ((f_X2_hoursSince t a1).bind fun x1 => ((f_X2_read t (68 : Int32) a1).bind fun x3 => some ((x1 + (1 : Int32)) * x3)))
abbrev rm_X2_pressureOf : Room := { frames := 2, cells := 0, slots := 0, locals := 44 }
theorem hd_X2_pressureOf : yX2_pressureOf.cls = RX2 ∧ yX2_pressureOf.cls ≠ "java/lang/invoke/MethodHandle" ∧ yX2_pressureOf.cls ≠ "java/lang/invoke/VarHandle" ∧ (parseMethodDescriptor yX2_pressureOf.desc).map (fun d => d.parameters.length) = some 1 := by decide +kernel
set_option maxHeartbeats 4000000 in
set_option maxRecDepth 100000 in
theorem c_X2_pressureOf (l : Launch) (D : va_G) (cI cZ cT : ClassId) (o a : Nat) (t : TT) (a1 : Int32) (r : Int32) (h : f_X2_pressureOf t a1 = some r) : Met l yX2_pressureOf (wq yX2_pressureOf cX2_pressureOf 2 (some .int)) rm_X2_pressureOf (q_R D (q_tys cI cZ cT) (wT cI o a t) q_T [.ref o, .int a1]) (vp_Si (fun r' => r' = r)) 0 0 (fun _ => False) := by
  refine q_RI (cc := cX2_pressureOf) (maxL := 2) (ret := (some .int)) (plainFor_of_name (by decide)) (Nat.le_of_ble_eq_true rfl) (fun p e s m below meth c C0 hP hK hE ls hl => ?_)
  have hl : lv_has ls 2 [(0, .ref o), (1, .int a1)] := hl
  obtain ⟨hx, hb, hr, hml, hown, hts, hlocks⟩ := id C0
  have hF : CallFix p m c cX2_pressureOf 2 s _ BW RX2 := ⟨hx, hb, hml, hown, hts⟩
  rw [f_X2_pressureOf] at h
  refine lv_aload_n hx hb dX2_pressureOf_0 rfl (lv_at hl 0 rfl) ?_
  refine lv_iload_n hx hb dX2_pressureOf_1 rfl (lv_at hl 1 rfl) ?_
  obtain ⟨x1, h2, h⟩ := bE h
  refine x_RV (As := [.int a1]) (rest := []) hF (c_X2_hoursSince l D cI cZ cT o a t a1 x1 h2) (cwV 1 hts (gqV mw_125 mw_126 mw_127 mw_15 mw_69) rfl rfl rfl hd_X2_hoursSince ⟨Nat.le_of_ble_eq_true rfl, Nat.le_of_ble_eq_true rfl⟩) hK hP q_T_bl (fun _ _ _ => trivial) [0, 1] rfl rfl rfl rfl hl.1 rfl (Nat.le_of_ble_eq_true rfl) dX2_pressureOf_2 ⟨Nat.zero_le _, Nat.zero_le _⟩ ?_
  refine lv_iconst (v := 1) hx hb dX2_pressureOf_5 (by decide) ?_
  refine lv_iadd hx hb dX2_pressureOf_6 ?_
  refine lv_aload_n hx hb dX2_pressureOf_7 rfl (lv_at hl 0 rfl) ?_
  refine lv_bipush (v := 68) hx hb dX2_pressureOf_8 (by decide) ?_
  refine lv_iload_n hx hb dX2_pressureOf_10 rfl (lv_at hl 1 rfl) ?_
  obtain ⟨x3, h4, h⟩ := bE h
  refine x_RV (As := [.int (68 : Int32), .int a1]) (rest := [.int (x1 + (1 : Int32))]) hF (c_X2_read l D cI cZ cT o a t (68 : Int32) a1 x3 h4) (cwV 2 hts (gqV mw_65 mw_66 mw_67 mw_15 mw_61) rfl rfl rfl hd_X2_read ⟨Nat.le_of_ble_eq_true rfl, Nat.le_of_ble_eq_true rfl⟩) hK hP q_T_bl (fun _ _ _ => trivial) [0, 1] rfl rfl rfl rfl hl.1 rfl (Nat.le_of_ble_eq_true rfl) dX2_pressureOf_11 ⟨Nat.zero_le _, Nat.zero_le _⟩ ?_
  refine lv_imul hx hb dX2_pressureOf_14 ?_
  cases h
  exact x_retR C0 rfl dX2_pressureOf_15

/-! QuarrelWays.Town.quarrelsBefore (I)I -/
def f_X2_quarrelsBefore_L4 (z0 : TT) (y1 : Int32) : Nat → Int32 → Int32 → Option (Int32)
  | 0, _, _ => none
  | n + 1, y2, y3 => (if z0.2.2.2.1 ≤ y3 then some y2 else ((f_X2_pressureOf z0 y3).bind fun x2 => ((f_X2_pressureOf z0 y1).bind fun x4 => ((f_X2_isOpen z0 y3).bind fun x6 => (if x6 = 0 then f_X2_quarrelsBefore_L4 z0 y1 n y2 (y3 + (1 : Int32)) else (if 0 < (x2 - x4) then f_X2_quarrelsBefore_L4 z0 y1 n (y2 + (1 : Int32)) (y3 + (1 : Int32)) else (if (x2 - x4) = 0 then (if y1 ≤ y3 then f_X2_quarrelsBefore_L4 z0 y1 n y2 (y3 + (1 : Int32)) else f_X2_quarrelsBefore_L4 z0 y1 n (y2 + (1 : Int32)) (y3 + (1 : Int32))) else f_X2_quarrelsBefore_L4 z0 y1 n y2 (y3 + (1 : Int32)))))))))
def f_X2_quarrelsBefore (t : TT) (a1 : Int32) : Option (Int32) := ((f_X2_quarrelsBefore_L4 t a1 2000 (0 : Int32) (0 : Int32)).bind fun v12 => some v12)
abbrev rm_X2_quarrelsBefore : Room := { frames := 3, cells := 0, slots := 0, locals := 65 }
theorem hd_X2_quarrelsBefore : yX2_quarrelsBefore.cls = RX2 ∧ yX2_quarrelsBefore.cls ≠ "java/lang/invoke/MethodHandle" ∧ yX2_quarrelsBefore.cls ≠ "java/lang/invoke/VarHandle" ∧ (parseMethodDescriptor yX2_quarrelsBefore.desc).map (fun d => d.parameters.length) = some 1 := by decide +kernel
set_option maxHeartbeats 4000000 in
set_option maxRecDepth 100000 in
theorem k_X2_quarrelsBefore_L4 {Q : State → Prop} {v : Int32} (o a : Nat) (z0 : TT) (y1 : Int32) (C0 : q_At p s m args meth c cX2_quarrelsBefore 5 (some .int) RX2) (hK : va_K D vwCl (q_tys cI cZ cT) s) (hP : va_P D vwCl (wT cI o a z0) s.heap) (hj : ∀ (ls : Array Slot), lv_has ls 5 [(2, .int v)] → W p l e rm_X2_quarrelsBefore s m args below meth c s.heap [] 0 0 Q (F0 m 57 ls [])) : ∀ (n : Nat) (y2 : Int32) (y3 : Int32) (ls : Array Slot), lv_has ls 5 [(0, .ref o), (1, .int y1), (2, .int y2), (3, .int y3)] → f_X2_quarrelsBefore_L4 z0 y1 n y2 y3 = some v → W p l e rm_X2_quarrelsBefore s m args below meth c s.heap [] 0 0 (Q) (F0 m 4 ls []) := by
  obtain ⟨hx, hb, hr, hml, hown, hts, hlocks⟩ := id C0
  have hF : CallFix p m c cX2_quarrelsBefore 5 s args BW RX2 := ⟨hx, hb, hml, hown, hts⟩
  intro n
  induction n with
  | zero =>
    intro y2 y3 ls hl h
    rw [f_X2_quarrelsBefore_L4] at h
    cases h
  | succ n ih =>
    intro y2 y3 ls hl h
    rw [f_X2_quarrelsBefore_L4] at h
    refine lv_iload_n hx hb dX2_quarrelsBefore_4 rfl (lv_at hl 3 rfl) ?_
    refine lv_aload_n hx hb dX2_quarrelsBefore_5 rfl (lv_at hl 0 rfl) ?_
    refine va_get (D := D) (v := .int z0.2.2.2.1) (C := RX2) (T := TX2) (N := 6) hx hb hts iw_X2 hown hK hP 0 rfl rfl 3 (by decide) (hts _ mw_9) (fun _ h9 => h9) rfl dX2_quarrelsBefore_6 ?_
    refine lv_icmp_ge (tgt := 57) hx hb dX2_quarrelsBefore_9 (by decide) (fun c1 => ?_) (fun c1 => ?_)
    · have h := xt c1 h
      cases h
      exact hj _ (lv_sub hl [2] rfl)
    · have h := xf c1 h
      refine lv_aload_n hx hb dX2_quarrelsBefore_12 rfl (lv_at hl 0 rfl) ?_
      refine lv_iload_n hx hb dX2_quarrelsBefore_13 rfl (lv_at hl 3 rfl) ?_
      obtain ⟨x2, h3, h⟩ := bE h
      refine x_RV (As := [.int y3]) (rest := []) hF (c_X2_pressureOf l D cI cZ cT o a z0 y3 x2 h3) (cwV 1 hts (gqV mw_192 mw_193 mw_194 mw_15 mw_190) rfl rfl rfl hd_X2_pressureOf ⟨Nat.le_of_ble_eq_true rfl, Nat.le_of_ble_eq_true rfl⟩) hK hP q_T_bl (fun _ _ _ => trivial) [0, 1] rfl rfl rfl rfl hl.1 rfl (Nat.le_of_ble_eq_true rfl) dX2_quarrelsBefore_14 ⟨Nat.zero_le _, Nat.zero_le _⟩ ?_
      refine lv_aload_n hx hb dX2_quarrelsBefore_17 rfl (lv_at hl 0 rfl) ?_
      refine lv_iload_n hx hb dX2_quarrelsBefore_18 rfl (lv_at hl 1 rfl) ?_
      obtain ⟨x4, h5, h⟩ := bE h
      refine x_RV (As := [.int y1]) (rest := [.int x2]) hF (c_X2_pressureOf l D cI cZ cT o a z0 y1 x4 h5) (cwV 1 hts (gqV mw_192 mw_193 mw_194 mw_15 mw_190) rfl rfl rfl hd_X2_pressureOf ⟨Nat.le_of_ble_eq_true rfl, Nat.le_of_ble_eq_true rfl⟩) hK hP q_T_bl (fun _ _ _ => trivial) [0, 1] rfl rfl rfl rfl hl.1 rfl (Nat.le_of_ble_eq_true rfl) dX2_quarrelsBefore_19 ⟨Nat.zero_le _, Nat.zero_le _⟩ ?_
      refine lv_isub hx hb dX2_quarrelsBefore_22 ?_
      refine lv_istore (lv' := [(4, .int (x2 - x4)), (0, .ref o), (1, .int y1), (2, .int y2), (3, .int y3)]) hx hb dX2_quarrelsBefore_23 hl (by decide) rfl (fun ls hl => ?_)
      refine lv_aload_n hx hb dX2_quarrelsBefore_25 rfl (lv_at hl 1 rfl) ?_
      refine lv_iload_n hx hb dX2_quarrelsBefore_26 rfl (lv_at hl 4 rfl) ?_
      obtain ⟨x6, h7, h⟩ := bE h
      refine x_RV (As := [.int y3]) (rest := []) hF (c_X2_isOpen l D cI cZ cT o a z0 y3 x6 h7) (cwV 1 hts (gqV mw_92 mw_93 mw_94 mw_15 mw_64) rfl rfl rfl hd_X2_isOpen ⟨Nat.le_of_ble_eq_true rfl, Nat.le_of_ble_eq_true rfl⟩) hK hP q_T_bl (fun _ _ _ => trivial) [0, 1] rfl rfl rfl rfl hl.1 rfl (Nat.le_of_ble_eq_true rfl) dX2_quarrelsBefore_27 ⟨Nat.zero_le _, Nat.zero_le _⟩ ?_
      refine lv_if_eq (tgt := 51) hx hb dX2_quarrelsBefore_30 (by decide) (fun c8 => ?_) (fun c8 => ?_)
      · have h := xt c8 h
        refine lv_iinc (v := (y3 + (1 : Int32))) (lv' := [(3, .int (y3 + (1 : Int32))), (4, .int (x2 - x4)), (0, .ref o), (1, .int y1), (2, .int y2)]) hx hb dX2_quarrelsBefore_51 hl (k := 4) rfl rfl (by decide) rfl (fun ls hl => ?_)
        refine lv_goto (tgt := 4) hx hb dX2_quarrelsBefore_54 (by decide) ?_
        exact ih y2 (y3 + (1 : Int32)) _ (lv_sub hl [2, 3, 4, 0] rfl) h
      · have h := xf c8 h
        refine lv_iload hx hb dX2_quarrelsBefore_33 (lv_at hl 0 rfl) ?_
        refine lv_if_gt (tgt := 48) hx hb dX2_quarrelsBefore_35 (by decide) (fun c9 => ?_) (fun c9 => ?_)
        · have h := xt c9 h
          refine lv_iinc (v := (y2 + (1 : Int32))) (lv' := [(2, .int (y2 + (1 : Int32))), (4, .int (x2 - x4)), (0, .ref o), (1, .int y1), (3, .int y3)]) hx hb dX2_quarrelsBefore_48 hl (k := 3) rfl rfl (by decide) rfl (fun ls hl => ?_)
          refine lv_iinc (v := (y3 + (1 : Int32))) (lv' := [(3, .int (y3 + (1 : Int32))), (2, .int (y2 + (1 : Int32))), (4, .int (x2 - x4)), (0, .ref o), (1, .int y1)]) hx hb dX2_quarrelsBefore_51 hl (k := 4) rfl rfl (by decide) rfl (fun ls hl => ?_)
          refine lv_goto (tgt := 4) hx hb dX2_quarrelsBefore_54 (by decide) ?_
          exact ih (y2 + (1 : Int32)) (y3 + (1 : Int32)) _ (lv_sub hl [3, 4, 1, 0] rfl) h
        · have h := xf c9 h
          refine lv_iload hx hb dX2_quarrelsBefore_38 (lv_at hl 0 rfl) ?_
          refine lv_if_ne (tgt := 51) hx hb dX2_quarrelsBefore_40 (by decide) (fun c10 => ?_) (fun c10 => ?_)
          · have h := xf c10 h
            refine lv_iinc (v := (y3 + (1 : Int32))) (lv' := [(3, .int (y3 + (1 : Int32))), (4, .int (x2 - x4)), (0, .ref o), (1, .int y1), (2, .int y2)]) hx hb dX2_quarrelsBefore_51 hl (k := 4) rfl rfl (by decide) rfl (fun ls hl => ?_)
            refine lv_goto (tgt := 4) hx hb dX2_quarrelsBefore_54 (by decide) ?_
            exact ih y2 (y3 + (1 : Int32)) _ (lv_sub hl [2, 3, 4, 0] rfl) h
          · have h := xt c10 h
            refine lv_iload_n hx hb dX2_quarrelsBefore_43 rfl (lv_at hl 4 rfl) ?_
            refine lv_iload_n hx hb dX2_quarrelsBefore_44 rfl (lv_at hl 2 rfl) ?_
            refine lv_icmp_ge (tgt := 51) hx hb dX2_quarrelsBefore_45 (by decide) (fun c11 => ?_) (fun c11 => ?_)
            · have h := xt c11 h
              refine lv_iinc (v := (y3 + (1 : Int32))) (lv' := [(3, .int (y3 + (1 : Int32))), (4, .int (x2 - x4)), (0, .ref o), (1, .int y1), (2, .int y2)]) hx hb dX2_quarrelsBefore_51 hl (k := 4) rfl rfl (by decide) rfl (fun ls hl => ?_)
              refine lv_goto (tgt := 4) hx hb dX2_quarrelsBefore_54 (by decide) ?_
              exact ih y2 (y3 + (1 : Int32)) _ (lv_sub hl [2, 3, 4, 0] rfl) h
            · have h := xf c11 h
              refine lv_iinc (v := (y2 + (1 : Int32))) (lv' := [(2, .int (y2 + (1 : Int32))), (4, .int (x2 - x4)), (0, .ref o), (1, .int y1), (3, .int y3)]) hx hb dX2_quarrelsBefore_48 hl (k := 3) rfl rfl (by decide) rfl (fun ls hl => ?_)
              refine lv_iinc (v := (y3 + (1 : Int32))) (lv' := [(3, .int (y3 + (1 : Int32))), (2, .int (y2 + (1 : Int32))), (4, .int (x2 - x4)), (0, .ref o), (1, .int y1)]) hx hb dX2_quarrelsBefore_51 hl (k := 4) rfl rfl (by decide) rfl (fun ls hl => ?_)
              refine lv_goto (tgt := 4) hx hb dX2_quarrelsBefore_54 (by decide) ?_
              exact ih (y2 + (1 : Int32)) (y3 + (1 : Int32)) _ (lv_sub hl [3, 4, 1, 0] rfl) h
set_option maxHeartbeats 4000000 in
set_option maxRecDepth 100000 in
theorem c_X2_quarrelsBefore (l : Launch) (D : va_G) (cI cZ cT : ClassId) (o a : Nat) (t : TT) (a1 : Int32) (r : Int32) (h : f_X2_quarrelsBefore t a1 = some r) : Met l yX2_quarrelsBefore (wq yX2_quarrelsBefore cX2_quarrelsBefore 5 (some .int)) rm_X2_quarrelsBefore (q_R D (q_tys cI cZ cT) (wT cI o a t) q_T [.ref o, .int a1]) (vp_Si (fun r' => r' = r)) 0 0 (fun _ => False) := by
  refine q_RI (cc := cX2_quarrelsBefore) (maxL := 5) (ret := (some .int)) (plainFor_of_name (by decide)) (Nat.le_of_ble_eq_true rfl) (fun p e s m below meth c C0 hP hK hE ls hl => ?_)
  have hl : lv_has ls 5 [(0, .ref o), (1, .int a1)] := hl
  obtain ⟨hx, hb, hr, hml, hown, hts, hlocks⟩ := id C0
  have hF : CallFix p m c cX2_quarrelsBefore 5 s _ BW RX2 := ⟨hx, hb, hml, hown, hts⟩
  rw [f_X2_quarrelsBefore] at h
  refine lv_iconst (v := 0) hx hb dX2_quarrelsBefore_0 (by decide) ?_
  refine lv_istore_n (lv' := [(2, .int (0 : Int32)), (0, .ref o), (1, .int a1)]) hx hb dX2_quarrelsBefore_1 rfl hl (by decide) rfl (fun ls hl => ?_)
  refine lv_iconst (v := 0) hx hb dX2_quarrelsBefore_2 (by decide) ?_
  refine lv_istore_n (lv' := [(3, .int (0 : Int32)), (2, .int (0 : Int32)), (0, .ref o), (1, .int a1)]) hx hb dX2_quarrelsBefore_3 rfl hl (by decide) rfl (fun ls hl => ?_)
  obtain ⟨v12, h13, h⟩ := bE h
  refine k_X2_quarrelsBefore_L4 (v := v12) o a t a1 C0 hK hP (fun ls hl => ?_) 2000 (0 : Int32) (0 : Int32) _ (lv_sub hl [2, 3, 1, 0] rfl) h13
  refine lv_iload_n hx hb dX2_quarrelsBefore_57 rfl (lv_at hl 0 rfl) ?_
  cases h
  exact x_retR C0 rfl dX2_quarrelsBefore_58

/-! QuarrelWays.Town.quarrelThatPresses (I)I -/
def f_X2_quarrelThatPresses_L2 (z0 : TT) (y1 : Int32) : Nat → Int32 → Option (Int32)
  | 0, _ => none
  | n + 1, y2 => (if z0.2.2.2.1 ≤ y2 then some (-1 : Int32) else ((f_X2_isOpen z0 y2).bind fun x2 => (if x2 = 0 then f_X2_quarrelThatPresses_L2 z0 y1 n (y2 + (1 : Int32)) else ((f_X2_quarrelsBefore z0 y2).bind fun x5 => (if x5 = y1 then some y2 else f_X2_quarrelThatPresses_L2 z0 y1 n (y2 + (1 : Int32)))))))
def f_X2_quarrelThatPresses (t : TT) (a1 : Int32) : Option (Int32) := f_X2_quarrelThatPresses_L2 t a1 2000 (0 : Int32)
abbrev rm_X2_quarrelThatPresses : Room := { frames := 4, cells := 0, slots := 0, locals := 89 }
theorem hd_X2_quarrelThatPresses : yX2_quarrelThatPresses.cls = RX2 ∧ yX2_quarrelThatPresses.cls ≠ "java/lang/invoke/MethodHandle" ∧ yX2_quarrelThatPresses.cls ≠ "java/lang/invoke/VarHandle" ∧ (parseMethodDescriptor yX2_quarrelThatPresses.desc).map (fun d => d.parameters.length) = some 1 := by decide +kernel
set_option maxHeartbeats 4000000 in
set_option maxRecDepth 100000 in
theorem k_X2_quarrelThatPresses_L2 {r : Int32} (o a : Nat) (z0 : TT) (y1 : Int32) (C0 : q_At p s m args meth c cX2_quarrelThatPresses 3 (some .int) RX2) (hK : va_K D vwCl (q_tys cI cZ cT) s) (hP : va_P D vwCl (wT cI o a z0) s.heap) : ∀ (n : Nat) (y2 : Int32) (ls : Array Slot), lv_has ls 3 [(0, .ref o), (1, .int y1), (2, .int y2)] → f_X2_quarrelThatPresses_L2 z0 y1 n y2 = some r → W p l e rm_X2_quarrelThatPresses s m args below meth c s.heap [] 0 0 (q_QR below args s r) (F0 m 2 ls []) := by
  obtain ⟨hx, hb, hr, hml, hown, hts, hlocks⟩ := id C0
  have hF : CallFix p m c cX2_quarrelThatPresses 3 s args BW RX2 := ⟨hx, hb, hml, hown, hts⟩
  intro n
  induction n with
  | zero =>
    intro y2 ls hl h
    rw [f_X2_quarrelThatPresses_L2] at h
    cases h
  | succ n ih =>
    intro y2 ls hl h
    rw [f_X2_quarrelThatPresses_L2] at h
    refine lv_iload_n hx hb dX2_quarrelThatPresses_2 rfl (lv_at hl 2 rfl) ?_
    refine lv_aload_n hx hb dX2_quarrelThatPresses_3 rfl (lv_at hl 0 rfl) ?_
    refine va_get (D := D) (v := .int z0.2.2.2.1) (C := RX2) (T := TX2) (N := 6) hx hb hts iw_X2 hown hK hP 0 rfl rfl 3 (by decide) (hts _ mw_9) (fun _ h9 => h9) rfl dX2_quarrelThatPresses_4 ?_
    refine lv_icmp_ge (tgt := 35) hx hb dX2_quarrelThatPresses_7 (by decide) (fun c1 => ?_) (fun c1 => ?_)
    · have h := xt c1 h
      refine lv_iconst (v := (-1)) hx hb dX2_quarrelThatPresses_35 (by decide) ?_
      cases h
      exact x_retR C0 rfl dX2_quarrelThatPresses_36
    · have h := xf c1 h
      refine lv_aload_n hx hb dX2_quarrelThatPresses_10 rfl (lv_at hl 0 rfl) ?_
      refine lv_iload_n hx hb dX2_quarrelThatPresses_11 rfl (lv_at hl 2 rfl) ?_
      obtain ⟨x2, h3, h⟩ := bE h
      refine x_RV (As := [.int y2]) (rest := []) hF (c_X2_isOpen l D cI cZ cT o a z0 y2 x2 h3) (cwV 1 hts (gqV mw_92 mw_93 mw_94 mw_15 mw_64) rfl rfl rfl hd_X2_isOpen ⟨Nat.le_of_ble_eq_true rfl, Nat.le_of_ble_eq_true rfl⟩) hK hP q_T_bl (fun _ _ _ => trivial) [0, 1] rfl rfl rfl rfl hl.1 rfl (Nat.le_of_ble_eq_true rfl) dX2_quarrelThatPresses_12 ⟨Nat.zero_le _, Nat.zero_le _⟩ ?_
      refine lv_if_eq (tgt := 29) hx hb dX2_quarrelThatPresses_15 (by decide) (fun c4 => ?_) (fun c4 => ?_)
      · have h := xt c4 h
        refine lv_iinc (v := (y2 + (1 : Int32))) (lv' := [(2, .int (y2 + (1 : Int32))), (0, .ref o), (1, .int y1)]) hx hb dX2_quarrelThatPresses_29 hl (k := 2) rfl rfl (by decide) rfl (fun ls hl => ?_)
        refine lv_goto (tgt := 2) hx hb dX2_quarrelThatPresses_32 (by decide) ?_
        exact ih (y2 + (1 : Int32)) _ (lv_sub hl [1, 2, 0] rfl) h
      · have h := xf c4 h
        refine lv_aload_n hx hb dX2_quarrelThatPresses_18 rfl (lv_at hl 0 rfl) ?_
        refine lv_iload_n hx hb dX2_quarrelThatPresses_19 rfl (lv_at hl 2 rfl) ?_
        obtain ⟨x5, h6, h⟩ := bE h
        refine x_RV (As := [.int y2]) (rest := []) hF (c_X2_quarrelsBefore l D cI cZ cT o a z0 y2 x5 h6) (cwV 1 hts (gqV mw_196 mw_197 mw_198 mw_15 mw_191) rfl rfl rfl hd_X2_quarrelsBefore ⟨Nat.le_of_ble_eq_true rfl, Nat.le_of_ble_eq_true rfl⟩) hK hP q_T_bl (fun _ _ _ => trivial) [0, 1] rfl rfl rfl rfl hl.1 rfl (Nat.le_of_ble_eq_true rfl) dX2_quarrelThatPresses_20 ⟨Nat.zero_le _, Nat.zero_le _⟩ ?_
        refine lv_iload_n hx hb dX2_quarrelThatPresses_23 rfl (lv_at hl 1 rfl) ?_
        refine lv_icmp_ne (tgt := 29) hx hb dX2_quarrelThatPresses_24 (by decide) (fun c7 => ?_) (fun c7 => ?_)
        · have h := xf c7 h
          refine lv_iinc (v := (y2 + (1 : Int32))) (lv' := [(2, .int (y2 + (1 : Int32))), (0, .ref o), (1, .int y1)]) hx hb dX2_quarrelThatPresses_29 hl (k := 2) rfl rfl (by decide) rfl (fun ls hl => ?_)
          refine lv_goto (tgt := 2) hx hb dX2_quarrelThatPresses_32 (by decide) ?_
          exact ih (y2 + (1 : Int32)) _ (lv_sub hl [1, 2, 0] rfl) h
        · have h := xt c7 h
          refine lv_iload_n hx hb dX2_quarrelThatPresses_27 rfl (lv_at hl 2 rfl) ?_
          cases h
          exact x_retR C0 rfl dX2_quarrelThatPresses_28
set_option maxHeartbeats 4000000 in
set_option maxRecDepth 100000 in
theorem c_X2_quarrelThatPresses (l : Launch) (D : va_G) (cI cZ cT : ClassId) (o a : Nat) (t : TT) (a1 : Int32) (r : Int32) (h : f_X2_quarrelThatPresses t a1 = some r) : Met l yX2_quarrelThatPresses (wq yX2_quarrelThatPresses cX2_quarrelThatPresses 3 (some .int)) rm_X2_quarrelThatPresses (q_R D (q_tys cI cZ cT) (wT cI o a t) q_T [.ref o, .int a1]) (vp_Si (fun r' => r' = r)) 0 0 (fun _ => False) := by
  refine q_RI (cc := cX2_quarrelThatPresses) (maxL := 3) (ret := (some .int)) (plainFor_of_name (by decide)) (Nat.le_of_ble_eq_true rfl) (fun p e s m below meth c C0 hP hK hE ls hl => ?_)
  have hl : lv_has ls 3 [(0, .ref o), (1, .int a1)] := hl
  obtain ⟨hx, hb, hr, hml, hown, hts, hlocks⟩ := id C0
  have hF : CallFix p m c cX2_quarrelThatPresses 3 s _ BW RX2 := ⟨hx, hb, hml, hown, hts⟩
  rw [f_X2_quarrelThatPresses] at h
  refine lv_iconst (v := 0) hx hb dX2_quarrelThatPresses_0 (by decide) ?_
  refine lv_istore_n (lv' := [(2, .int (0 : Int32)), (0, .ref o), (1, .int a1)]) hx hb dX2_quarrelThatPresses_1 rfl hl (by decide) rfl (fun ls hl => ?_)
  exact k_X2_quarrelThatPresses_L2 o a t a1 C0 hK hP 2000 (0 : Int32) _ (lv_sub hl [1, 2, 0] rfl) h

/-! QuarrelWays.Town.insultsFrom (I)I -/
def f_X2_insultsFrom_L14 (z0 : TT) (y1 : Int32) : Nat → Int32 → Int32 → Option (Int32)
  | 0, _, _ => none
  | n + 1, y2, y3 => (if z0.2.2.2.1 ≤ y3 then some y2 else ((f_X2_read z0 (68 : Int32) y3).bind fun x5 => (if x5 < y1 then f_X2_insultsFrom_L14 z0 y1 n y2 (y3 + (1 : Int32)) else f_X2_insultsFrom_L14 z0 y1 n (y2 + (1 : Int32)) (y3 + (1 : Int32)))))
def f_X2_insultsFrom (t : TT) (a1 : Int32) : Option (Int32) := ((f_X2_isRank a1).bind fun x1 => (if x1 = 0 then some (-2 : Int32) else ((f_X2_insultsFrom_L14 t a1 2000 (0 : Int32) (0 : Int32)).bind fun v8 => some v8)))
abbrev rm_X2_insultsFrom : Room := { frames := 1, cells := 0, slots := 0, locals := 23 }
theorem hd_X2_insultsFrom : yX2_insultsFrom.cls = RX2 ∧ yX2_insultsFrom.cls ≠ "java/lang/invoke/MethodHandle" ∧ yX2_insultsFrom.cls ≠ "java/lang/invoke/VarHandle" ∧ (parseMethodDescriptor yX2_insultsFrom.desc).map (fun d => d.parameters.length) = some 1 := by decide +kernel
set_option maxHeartbeats 4000000 in
set_option maxRecDepth 100000 in
theorem k_X2_insultsFrom_L14 {Q : State → Prop} {v : Int32} (o a : Nat) (z0 : TT) (y1 : Int32) (C0 : q_At p s m args meth c cX2_insultsFrom 4 (some .int) RX2) (hK : va_K D vwCl (q_tys cI cZ cT) s) (hP : va_P D vwCl (wT cI o a z0) s.heap) (hj : ∀ (ls : Array Slot), lv_has ls 4 [(2, .int v)] → W p l e rm_X2_insultsFrom s m args below meth c s.heap [] 0 0 Q (F0 m 42 ls [])) : ∀ (n : Nat) (y2 : Int32) (y3 : Int32) (ls : Array Slot), lv_has ls 4 [(0, .ref o), (1, .int y1), (2, .int y2), (3, .int y3)] → f_X2_insultsFrom_L14 z0 y1 n y2 y3 = some v → W p l e rm_X2_insultsFrom s m args below meth c s.heap [] 0 0 (Q) (F0 m 14 ls []) := by
  obtain ⟨hx, hb, hr, hml, hown, hts, hlocks⟩ := id C0
  have hF : CallFix p m c cX2_insultsFrom 4 s args BW RX2 := ⟨hx, hb, hml, hown, hts⟩
  intro n
  induction n with
  | zero =>
    intro y2 y3 ls hl h
    rw [f_X2_insultsFrom_L14] at h
    cases h
  | succ n ih =>
    intro y2 y3 ls hl h
    rw [f_X2_insultsFrom_L14] at h
    refine lv_iload_n hx hb dX2_insultsFrom_14 rfl (lv_at hl 3 rfl) ?_
    refine lv_aload_n hx hb dX2_insultsFrom_15 rfl (lv_at hl 0 rfl) ?_
    refine va_get (D := D) (v := .int z0.2.2.2.1) (C := RX2) (T := TX2) (N := 6) hx hb hts iw_X2 hown hK hP 0 rfl rfl 3 (by decide) (hts _ mw_9) (fun _ h9 => h9) rfl dX2_insultsFrom_16 ?_
    refine lv_icmp_ge (tgt := 42) hx hb dX2_insultsFrom_19 (by decide) (fun c4 => ?_) (fun c4 => ?_)
    · have h := xt c4 h
      cases h
      exact hj _ (lv_sub hl [2] rfl)
    · have h := xf c4 h
      refine lv_aload_n hx hb dX2_insultsFrom_22 rfl (lv_at hl 0 rfl) ?_
      refine lv_bipush (v := 68) hx hb dX2_insultsFrom_23 (by decide) ?_
      refine lv_iload_n hx hb dX2_insultsFrom_25 rfl (lv_at hl 3 rfl) ?_
      obtain ⟨x5, h6, h⟩ := bE h
      refine x_RV (As := [.int (68 : Int32), .int y3]) (rest := []) hF (c_X2_read l D cI cZ cT o a z0 (68 : Int32) y3 x5 h6) (cwV 2 hts (gqV mw_65 mw_66 mw_67 mw_15 mw_61) rfl rfl rfl hd_X2_read ⟨Nat.le_of_ble_eq_true rfl, Nat.le_of_ble_eq_true rfl⟩) hK hP q_T_bl (fun _ _ _ => trivial) [0, 1] rfl rfl rfl rfl hl.1 rfl (Nat.le_of_ble_eq_true rfl) dX2_insultsFrom_26 ⟨Nat.zero_le _, Nat.zero_le _⟩ ?_
      refine lv_iload_n hx hb dX2_insultsFrom_29 rfl (lv_at hl 1 rfl) ?_
      refine lv_icmp_lt (tgt := 36) hx hb dX2_insultsFrom_30 (by decide) (fun c7 => ?_) (fun c7 => ?_)
      · have h := xt c7 h
        refine lv_iinc (v := (y3 + (1 : Int32))) (lv' := [(3, .int (y3 + (1 : Int32))), (0, .ref o), (1, .int y1), (2, .int y2)]) hx hb dX2_insultsFrom_36 hl (k := 3) rfl rfl (by decide) rfl (fun ls hl => ?_)
        refine lv_goto (tgt := 14) hx hb dX2_insultsFrom_39 (by decide) ?_
        exact ih y2 (y3 + (1 : Int32)) _ (lv_sub hl [1, 2, 3, 0] rfl) h
      · have h := xf c7 h
        refine lv_iinc (v := (y2 + (1 : Int32))) (lv' := [(2, .int (y2 + (1 : Int32))), (0, .ref o), (1, .int y1), (3, .int y3)]) hx hb dX2_insultsFrom_33 hl (k := 2) rfl rfl (by decide) rfl (fun ls hl => ?_)
        refine lv_iinc (v := (y3 + (1 : Int32))) (lv' := [(3, .int (y3 + (1 : Int32))), (2, .int (y2 + (1 : Int32))), (0, .ref o), (1, .int y1)]) hx hb dX2_insultsFrom_36 hl (k := 3) rfl rfl (by decide) rfl (fun ls hl => ?_)
        refine lv_goto (tgt := 14) hx hb dX2_insultsFrom_39 (by decide) ?_
        exact ih (y2 + (1 : Int32)) (y3 + (1 : Int32)) _ (lv_sub hl [2, 3, 1, 0] rfl) h
set_option maxHeartbeats 4000000 in
set_option maxRecDepth 100000 in
theorem c_X2_insultsFrom (l : Launch) (D : va_G) (cI cZ cT : ClassId) (o a : Nat) (t : TT) (a1 : Int32) (r : Int32) (h : f_X2_insultsFrom t a1 = some r) : Met l yX2_insultsFrom (wq yX2_insultsFrom cX2_insultsFrom 4 (some .int)) rm_X2_insultsFrom (q_R D (q_tys cI cZ cT) (wT cI o a t) q_T [.ref o, .int a1]) (vp_Si (fun r' => r' = r)) 0 0 (fun _ => False) := by
  refine q_RI (cc := cX2_insultsFrom) (maxL := 4) (ret := (some .int)) (plainFor_of_name (by decide)) (Nat.le_of_ble_eq_true rfl) (fun p e s m below meth c C0 hP hK hE ls hl => ?_)
  have hl : lv_has ls 4 [(0, .ref o), (1, .int a1)] := hl
  obtain ⟨hx, hb, hr, hml, hown, hts, hlocks⟩ := id C0
  have hF : CallFix p m c cX2_insultsFrom 4 s _ BW RX2 := ⟨hx, hb, hml, hown, hts⟩
  rw [f_X2_insultsFrom] at h
  refine lv_iload_n hx hb dX2_insultsFrom_0 rfl (lv_at hl 1 rfl) ?_
  obtain ⟨x1, h2, h⟩ := bE h
  refine x_RS (As := [.int a1]) (rest := []) hF (c_X2_isRank l D cI cZ cT  a1 x1 h2) (va_cwS 1 hts (gqS mw_89 mw_90 mw_15 mw_75) rfl rfl rfl hd_X2_isRank.2 ⟨Nat.le_of_ble_eq_true rfl, Nat.le_of_ble_eq_true rfl⟩) hK hP q_T_bl (fun _ _ _ => trivial) [] rfl rfl hl.1 rfl (Nat.le_of_ble_eq_true rfl) dX2_insultsFrom_1 ⟨Nat.zero_le _, Nat.zero_le _⟩ ?_
  refine lv_if_ne (tgt := 10) hx hb dX2_insultsFrom_4 (by decide) (fun c3 => ?_) (fun c3 => ?_)
  · have h := xf c3 h
    refine lv_iconst (v := 0) hx hb dX2_insultsFrom_10 (by decide) ?_
    refine lv_istore_n (lv' := [(2, .int (0 : Int32)), (0, .ref o), (1, .int a1)]) hx hb dX2_insultsFrom_11 rfl hl (by decide) rfl (fun ls hl => ?_)
    refine lv_iconst (v := 0) hx hb dX2_insultsFrom_12 (by decide) ?_
    refine lv_istore_n (lv' := [(3, .int (0 : Int32)), (2, .int (0 : Int32)), (0, .ref o), (1, .int a1)]) hx hb dX2_insultsFrom_13 rfl hl (by decide) rfl (fun ls hl => ?_)
    obtain ⟨v8, h9, h⟩ := bE h
    refine k_X2_insultsFrom_L14 (v := v8) o a t a1 C0 hK hP (fun ls hl => ?_) 2000 (0 : Int32) (0 : Int32) _ (lv_sub hl [2, 3, 1, 0] rfl) h9
    refine lv_iload_n hx hb dX2_insultsFrom_42 rfl (lv_at hl 0 rfl) ?_
    cases h
    exact x_retR C0 rfl dX2_insultsFrom_43
  · have h := xt c3 h
    refine lv_bipush (v := (-2)) hx hb dX2_insultsFrom_7 (by decide) ?_
    cases h
    exact x_retR C0 rfl dX2_insultsFrom_9

/-! QuarrelWays.Town.openQuarrels ()I -/
def f_X2_openQuarrels_L4 (z0 : TT) : Nat → Int32 → Int32 → Option (Int32)
  | 0, _, _ => none
  | n + 1, y1, y2 => (if z0.2.2.2.1 ≤ y2 then some y1 else ((f_X2_isOpen z0 y2).bind fun x2 => (if x2 = 0 then f_X2_openQuarrels_L4 z0 n y1 (y2 + (1 : Int32)) else f_X2_openQuarrels_L4 z0 n (y1 ||| ((1 : Int32) <<< (y2 &&& 31))) (y2 + (1 : Int32)))))
def f_X2_openQuarrels (t : TT) : Option (Int32) := ((f_X2_openQuarrels_L4 t 2000 (0 : Int32) (0 : Int32)).bind fun v5 => some v5)
abbrev rm_X2_openQuarrels : Room := { frames := 2, cells := 0, slots := 0, locals := 44 }
theorem hd_X2_openQuarrels : yX2_openQuarrels.cls = RX2 ∧ yX2_openQuarrels.cls ≠ "java/lang/invoke/MethodHandle" ∧ yX2_openQuarrels.cls ≠ "java/lang/invoke/VarHandle" ∧ (parseMethodDescriptor yX2_openQuarrels.desc).map (fun d => d.parameters.length) = some 0 := by decide +kernel
set_option maxHeartbeats 4000000 in
set_option maxRecDepth 100000 in
theorem k_X2_openQuarrels_L4 {Q : State → Prop} {v : Int32} (o a : Nat) (z0 : TT) (C0 : q_At p s m args meth c cX2_openQuarrels 3 (some .int) RX2) (hK : va_K D vwCl (q_tys cI cZ cT) s) (hP : va_P D vwCl (wT cI o a z0) s.heap) (hj : ∀ (ls : Array Slot), lv_has ls 3 [(1, .int v)] → W p l e rm_X2_openQuarrels s m args below meth c s.heap [] 0 0 Q (F0 m 32 ls [])) : ∀ (n : Nat) (y1 : Int32) (y2 : Int32) (ls : Array Slot), lv_has ls 3 [(0, .ref o), (1, .int y1), (2, .int y2)] → f_X2_openQuarrels_L4 z0 n y1 y2 = some v → W p l e rm_X2_openQuarrels s m args below meth c s.heap [] 0 0 (Q) (F0 m 4 ls []) := by
  obtain ⟨hx, hb, hr, hml, hown, hts, hlocks⟩ := id C0
  have hF : CallFix p m c cX2_openQuarrels 3 s args BW RX2 := ⟨hx, hb, hml, hown, hts⟩
  intro n
  induction n with
  | zero =>
    intro y1 y2 ls hl h
    rw [f_X2_openQuarrels_L4] at h
    cases h
  | succ n ih =>
    intro y1 y2 ls hl h
    rw [f_X2_openQuarrels_L4] at h
    refine lv_iload_n hx hb dX2_openQuarrels_4 rfl (lv_at hl 2 rfl) ?_
    refine lv_aload_n hx hb dX2_openQuarrels_5 rfl (lv_at hl 0 rfl) ?_
    refine va_get (D := D) (v := .int z0.2.2.2.1) (C := RX2) (T := TX2) (N := 6) hx hb hts iw_X2 hown hK hP 0 rfl rfl 3 (by decide) (hts _ mw_9) (fun _ h9 => h9) rfl dX2_openQuarrels_6 ?_
    refine lv_icmp_ge (tgt := 32) hx hb dX2_openQuarrels_9 (by decide) (fun c1 => ?_) (fun c1 => ?_)
    · have h := xt c1 h
      cases h
      exact hj _ (lv_sub hl [1] rfl)
    · have h := xf c1 h
      refine lv_aload_n hx hb dX2_openQuarrels_12 rfl (lv_at hl 0 rfl) ?_
      refine lv_iload_n hx hb dX2_openQuarrels_13 rfl (lv_at hl 2 rfl) ?_
      obtain ⟨x2, h3, h⟩ := bE h
      refine x_RV (As := [.int y2]) (rest := []) hF (c_X2_isOpen l D cI cZ cT o a z0 y2 x2 h3) (cwV 1 hts (gqV mw_92 mw_93 mw_94 mw_15 mw_64) rfl rfl rfl hd_X2_isOpen ⟨Nat.le_of_ble_eq_true rfl, Nat.le_of_ble_eq_true rfl⟩) hK hP q_T_bl (fun _ _ _ => trivial) [0, 1] rfl rfl rfl rfl hl.1 rfl (Nat.le_of_ble_eq_true rfl) dX2_openQuarrels_14 ⟨Nat.zero_le _, Nat.zero_le _⟩ ?_
      refine lv_if_eq (tgt := 26) hx hb dX2_openQuarrels_17 (by decide) (fun c4 => ?_) (fun c4 => ?_)
      · have h := xt c4 h
        refine lv_iinc (v := (y2 + (1 : Int32))) (lv' := [(2, .int (y2 + (1 : Int32))), (0, .ref o), (1, .int y1)]) hx hb dX2_openQuarrels_26 hl (k := 2) rfl rfl (by decide) rfl (fun ls hl => ?_)
        refine lv_goto (tgt := 4) hx hb dX2_openQuarrels_29 (by decide) ?_
        exact ih y1 (y2 + (1 : Int32)) _ (lv_sub hl [1, 2, 0] rfl) h
      · have h := xf c4 h
        refine lv_iload_n hx hb dX2_openQuarrels_20 rfl (lv_at hl 1 rfl) ?_
        refine lv_iconst (v := 1) hx hb dX2_openQuarrels_21 (by decide) ?_
        refine lv_iload_n hx hb dX2_openQuarrels_22 rfl (lv_at hl 2 rfl) ?_
        refine lv_ishl hx hb dX2_openQuarrels_23 ?_
        refine lv_ior hx hb dX2_openQuarrels_24 ?_
        refine lv_istore_n (lv' := [(1, .int (y1 ||| ((1 : Int32) <<< (y2 &&& 31)))), (0, .ref o), (2, .int y2)]) hx hb dX2_openQuarrels_25 rfl hl (by decide) rfl (fun ls hl => ?_)
        refine lv_iinc (v := (y2 + (1 : Int32))) (lv' := [(2, .int (y2 + (1 : Int32))), (1, .int (y1 ||| ((1 : Int32) <<< (y2 &&& 31)))), (0, .ref o)]) hx hb dX2_openQuarrels_26 hl (k := 2) rfl rfl (by decide) rfl (fun ls hl => ?_)
        refine lv_goto (tgt := 4) hx hb dX2_openQuarrels_29 (by decide) ?_
        exact ih (y1 ||| ((1 : Int32) <<< (y2 &&& 31))) (y2 + (1 : Int32)) _ (lv_sub hl [2, 1, 0] rfl) h
set_option maxHeartbeats 4000000 in
set_option maxRecDepth 100000 in
theorem c_X2_openQuarrels (l : Launch) (D : va_G) (cI cZ cT : ClassId) (o a : Nat) (t : TT) (r : Int32) (h : f_X2_openQuarrels t = some r) : Met l yX2_openQuarrels (wq yX2_openQuarrels cX2_openQuarrels 3 (some .int)) rm_X2_openQuarrels (q_R D (q_tys cI cZ cT) (wT cI o a t) q_T [.ref o]) (vp_Si (fun r' => r' = r)) 0 0 (fun _ => False) := by
  refine q_RI (cc := cX2_openQuarrels) (maxL := 3) (ret := (some .int)) (plainFor_of_name (by decide)) (Nat.le_of_ble_eq_true rfl) (fun p e s m below meth c C0 hP hK hE ls hl => ?_)
  have hl : lv_has ls 3 [(0, .ref o)] := hl
  obtain ⟨hx, hb, hr, hml, hown, hts, hlocks⟩ := id C0
  have hF : CallFix p m c cX2_openQuarrels 3 s _ BW RX2 := ⟨hx, hb, hml, hown, hts⟩
  rw [f_X2_openQuarrels] at h
  refine lv_iconst (v := 0) hx hb dX2_openQuarrels_0 (by decide) ?_
  refine lv_istore_n (lv' := [(1, .int (0 : Int32)), (0, .ref o)]) hx hb dX2_openQuarrels_1 rfl hl (by decide) rfl (fun ls hl => ?_)
  refine lv_iconst (v := 0) hx hb dX2_openQuarrels_2 (by decide) ?_
  refine lv_istore_n (lv' := [(2, .int (0 : Int32)), (1, .int (0 : Int32)), (0, .ref o)]) hx hb dX2_openQuarrels_3 rfl hl (by decide) rfl (fun ls hl => ?_)
  obtain ⟨v5, h6, h⟩ := bE h
  refine k_X2_openQuarrels_L4 (v := v5) o a t C0 hK hP (fun ls hl => ?_) 2000 (0 : Int32) (0 : Int32) _ (lv_sub hl [2, 1, 0] rfl) h6
  refine lv_iload_n hx hb dX2_openQuarrels_32 rfl (lv_at hl 0 rfl) ?_
  cases h
  exact x_retR C0 rfl dX2_openQuarrels_33

/-! QuarrelWays.Town.dueQuarrels ()I -/
def f_X2_dueQuarrels_L4 (z0 : TT) : Nat → Int32 → Int32 → Option (Int32)
  | 0, _, _ => none
  | n + 1, y1, y2 => (if z0.2.2.2.1 ≤ y2 then some y1 else ((f_X2_waysOf z0 y2).bind fun x2 => ((f_X2_whyNotDue z0 y2 x2).bind fun x4 => (if x4 = 0 then f_X2_dueQuarrels_L4 z0 n (y1 ||| ((1 : Int32) <<< (y2 &&& 31))) (y2 + (1 : Int32)) else f_X2_dueQuarrels_L4 z0 n y1 (y2 + (1 : Int32))))))
def f_X2_dueQuarrels (t : TT) : Option (Int32) := ((f_X2_dueQuarrels_L4 t 2000 (0 : Int32) (0 : Int32)).bind fun v7 => some v7)
abbrev rm_X2_dueQuarrels : Room := { frames := 4, cells := 0, slots := 0, locals := 94 }
theorem hd_X2_dueQuarrels : yX2_dueQuarrels.cls = RX2 ∧ yX2_dueQuarrels.cls ≠ "java/lang/invoke/MethodHandle" ∧ yX2_dueQuarrels.cls ≠ "java/lang/invoke/VarHandle" ∧ (parseMethodDescriptor yX2_dueQuarrels.desc).map (fun d => d.parameters.length) = some 0 := by decide +kernel
set_option maxHeartbeats 4000000 in
set_option maxRecDepth 100000 in
theorem k_X2_dueQuarrels_L4 {Q : State → Prop} {v : Int32} (o a : Nat) (z0 : TT) (C0 : q_At p s m args meth c cX2_dueQuarrels 3 (some .int) RX2) (hK : va_K D vwCl (q_tys cI cZ cT) s) (hP : va_P D vwCl (wT cI o a z0) s.heap) (hj : ∀ (ls : Array Slot), lv_has ls 3 [(1, .int v)] → W p l e rm_X2_dueQuarrels s m args below meth c s.heap [] 0 0 Q (F0 m 37 ls [])) : ∀ (n : Nat) (y1 : Int32) (y2 : Int32) (ls : Array Slot), lv_has ls 3 [(0, .ref o), (1, .int y1), (2, .int y2)] → f_X2_dueQuarrels_L4 z0 n y1 y2 = some v → W p l e rm_X2_dueQuarrels s m args below meth c s.heap [] 0 0 (Q) (F0 m 4 ls []) := by
  obtain ⟨hx, hb, hr, hml, hown, hts, hlocks⟩ := id C0
  have hF : CallFix p m c cX2_dueQuarrels 3 s args BW RX2 := ⟨hx, hb, hml, hown, hts⟩
  intro n
  induction n with
  | zero =>
    intro y1 y2 ls hl h
    rw [f_X2_dueQuarrels_L4] at h
    cases h
  | succ n ih =>
    intro y1 y2 ls hl h
    rw [f_X2_dueQuarrels_L4] at h
    refine lv_iload_n hx hb dX2_dueQuarrels_4 rfl (lv_at hl 2 rfl) ?_
    refine lv_aload_n hx hb dX2_dueQuarrels_5 rfl (lv_at hl 0 rfl) ?_
    refine va_get (D := D) (v := .int z0.2.2.2.1) (C := RX2) (T := TX2) (N := 6) hx hb hts iw_X2 hown hK hP 0 rfl rfl 3 (by decide) (hts _ mw_9) (fun _ h9 => h9) rfl dX2_dueQuarrels_6 ?_
    refine lv_icmp_ge (tgt := 37) hx hb dX2_dueQuarrels_9 (by decide) (fun c1 => ?_) (fun c1 => ?_)
    · have h := xt c1 h
      cases h
      exact hj _ (lv_sub hl [1] rfl)
    · have h := xf c1 h
      refine lv_aload_n hx hb dX2_dueQuarrels_12 rfl (lv_at hl 0 rfl) ?_
      refine lv_iload_n hx hb dX2_dueQuarrels_13 rfl (lv_at hl 2 rfl) ?_
      refine lv_aload_n hx hb dX2_dueQuarrels_14 rfl (lv_at hl 0 rfl) ?_
      refine lv_iload_n hx hb dX2_dueQuarrels_15 rfl (lv_at hl 2 rfl) ?_
      obtain ⟨x2, h3, h⟩ := bE h
      refine x_RV (As := [.int y2]) (rest := [.int y2, .ref o]) hF (c_X2_waysOf l D cI cZ cT o a z0 y2 x2 h3) (cwV 1 hts (gqV mw_137 mw_138 mw_139 mw_15 mw_131) rfl rfl rfl hd_X2_waysOf ⟨Nat.le_of_ble_eq_true rfl, Nat.le_of_ble_eq_true rfl⟩) hK hP q_T_bl (fun _ _ _ => trivial) [0, 1] rfl rfl rfl rfl hl.1 rfl (Nat.le_of_ble_eq_true rfl) dX2_dueQuarrels_16 ⟨Nat.zero_le _, Nat.zero_le _⟩ ?_
      obtain ⟨x4, h5, h⟩ := bE h
      refine x_RV (As := [.int y2, .int x2]) (rest := []) hF (c_X2_whyNotDue l D cI cZ cT o a z0 y2 x2 x4 h5) (cwV 2 hts (gqV mw_154 mw_155 mw_156 mw_15 mw_147) rfl rfl rfl hd_X2_whyNotDue ⟨Nat.le_of_ble_eq_true rfl, Nat.le_of_ble_eq_true rfl⟩) hK hP q_T_bl (fun _ _ _ => trivial) [0, 1] rfl rfl rfl rfl hl.1 rfl (Nat.le_of_ble_eq_true rfl) dX2_dueQuarrels_19 ⟨Nat.zero_le _, Nat.zero_le _⟩ ?_
      refine lv_if_ne (tgt := 31) hx hb dX2_dueQuarrels_22 (by decide) (fun c6 => ?_) (fun c6 => ?_)
      · have h := xf c6 h
        refine lv_iinc (v := (y2 + (1 : Int32))) (lv' := [(2, .int (y2 + (1 : Int32))), (0, .ref o), (1, .int y1)]) hx hb dX2_dueQuarrels_31 hl (k := 2) rfl rfl (by decide) rfl (fun ls hl => ?_)
        refine lv_goto (tgt := 4) hx hb dX2_dueQuarrels_34 (by decide) ?_
        exact ih y1 (y2 + (1 : Int32)) _ (lv_sub hl [1, 2, 0] rfl) h
      · have h := xt c6 h
        refine lv_iload_n hx hb dX2_dueQuarrels_25 rfl (lv_at hl 1 rfl) ?_
        refine lv_iconst (v := 1) hx hb dX2_dueQuarrels_26 (by decide) ?_
        refine lv_iload_n hx hb dX2_dueQuarrels_27 rfl (lv_at hl 2 rfl) ?_
        refine lv_ishl hx hb dX2_dueQuarrels_28 ?_
        refine lv_ior hx hb dX2_dueQuarrels_29 ?_
        refine lv_istore_n (lv' := [(1, .int (y1 ||| ((1 : Int32) <<< (y2 &&& 31)))), (0, .ref o), (2, .int y2)]) hx hb dX2_dueQuarrels_30 rfl hl (by decide) rfl (fun ls hl => ?_)
        refine lv_iinc (v := (y2 + (1 : Int32))) (lv' := [(2, .int (y2 + (1 : Int32))), (1, .int (y1 ||| ((1 : Int32) <<< (y2 &&& 31)))), (0, .ref o)]) hx hb dX2_dueQuarrels_31 hl (k := 2) rfl rfl (by decide) rfl (fun ls hl => ?_)
        refine lv_goto (tgt := 4) hx hb dX2_dueQuarrels_34 (by decide) ?_
        exact ih (y1 ||| ((1 : Int32) <<< (y2 &&& 31))) (y2 + (1 : Int32)) _ (lv_sub hl [2, 1, 0] rfl) h
set_option maxHeartbeats 4000000 in
set_option maxRecDepth 100000 in
theorem c_X2_dueQuarrels (l : Launch) (D : va_G) (cI cZ cT : ClassId) (o a : Nat) (t : TT) (r : Int32) (h : f_X2_dueQuarrels t = some r) : Met l yX2_dueQuarrels (wq yX2_dueQuarrels cX2_dueQuarrels 3 (some .int)) rm_X2_dueQuarrels (q_R D (q_tys cI cZ cT) (wT cI o a t) q_T [.ref o]) (vp_Si (fun r' => r' = r)) 0 0 (fun _ => False) := by
  refine q_RI (cc := cX2_dueQuarrels) (maxL := 3) (ret := (some .int)) (plainFor_of_name (by decide)) (Nat.le_of_ble_eq_true rfl) (fun p e s m below meth c C0 hP hK hE ls hl => ?_)
  have hl : lv_has ls 3 [(0, .ref o)] := hl
  obtain ⟨hx, hb, hr, hml, hown, hts, hlocks⟩ := id C0
  have hF : CallFix p m c cX2_dueQuarrels 3 s _ BW RX2 := ⟨hx, hb, hml, hown, hts⟩
  rw [f_X2_dueQuarrels] at h
  refine lv_iconst (v := 0) hx hb dX2_dueQuarrels_0 (by decide) ?_
  refine lv_istore_n (lv' := [(1, .int (0 : Int32)), (0, .ref o)]) hx hb dX2_dueQuarrels_1 rfl hl (by decide) rfl (fun ls hl => ?_)
  refine lv_iconst (v := 0) hx hb dX2_dueQuarrels_2 (by decide) ?_
  refine lv_istore_n (lv' := [(2, .int (0 : Int32)), (1, .int (0 : Int32)), (0, .ref o)]) hx hb dX2_dueQuarrels_3 rfl hl (by decide) rfl (fun ls hl => ?_)
  obtain ⟨v7, h8, h⟩ := bE h
  refine k_X2_dueQuarrels_L4 (v := v7) o a t C0 hK hP (fun ls hl => ?_) 2000 (0 : Int32) (0 : Int32) _ (lv_sub hl [2, 1, 0] rfl) h8
  refine lv_iload_n hx hb dX2_dueQuarrels_37 rfl (lv_at hl 0 rfl) ?_
  cases h
  exact x_retR C0 rfl dX2_dueQuarrels_38

/-! QuarrelWays.Town.personsUnderOath ()I -/
def f_X2_personsUnderOath_L4 (z0 : TT) : Nat → Int32 → Int32 → Option (Int32)
  | 0, _, _ => none
  | n + 1, y1, y2 => (if z0.2.2.1 ≤ y2 then some y1 else ((f_X2_oathLeft z0 y2).bind fun x2 => (if x2 ≤ 0 then f_X2_personsUnderOath_L4 z0 n y1 (y2 + (1 : Int32)) else f_X2_personsUnderOath_L4 z0 n (y1 ||| ((1 : Int32) <<< (y2 &&& 31))) (y2 + (1 : Int32)))))
def f_X2_personsUnderOath (t : TT) : Option (Int32) := ((f_X2_personsUnderOath_L4 t 2000 (0 : Int32) (0 : Int32)).bind fun v5 => some v5)
abbrev rm_X2_personsUnderOath : Room := { frames := 2, cells := 0, slots := 0, locals := 45 }
theorem hd_X2_personsUnderOath : yX2_personsUnderOath.cls = RX2 ∧ yX2_personsUnderOath.cls ≠ "java/lang/invoke/MethodHandle" ∧ yX2_personsUnderOath.cls ≠ "java/lang/invoke/VarHandle" ∧ (parseMethodDescriptor yX2_personsUnderOath.desc).map (fun d => d.parameters.length) = some 0 := by decide +kernel
set_option maxHeartbeats 4000000 in
set_option maxRecDepth 100000 in
theorem k_X2_personsUnderOath_L4 {Q : State → Prop} {v : Int32} (o a : Nat) (z0 : TT) (C0 : q_At p s m args meth c cX2_personsUnderOath 3 (some .int) RX2) (hK : va_K D vwCl (q_tys cI cZ cT) s) (hP : va_P D vwCl (wT cI o a z0) s.heap) (hj : ∀ (ls : Array Slot), lv_has ls 3 [(1, .int v)] → W p l e rm_X2_personsUnderOath s m args below meth c s.heap [] 0 0 Q (F0 m 32 ls [])) : ∀ (n : Nat) (y1 : Int32) (y2 : Int32) (ls : Array Slot), lv_has ls 3 [(0, .ref o), (1, .int y1), (2, .int y2)] → f_X2_personsUnderOath_L4 z0 n y1 y2 = some v → W p l e rm_X2_personsUnderOath s m args below meth c s.heap [] 0 0 (Q) (F0 m 4 ls []) := by
  obtain ⟨hx, hb, hr, hml, hown, hts, hlocks⟩ := id C0
  have hF : CallFix p m c cX2_personsUnderOath 3 s args BW RX2 := ⟨hx, hb, hml, hown, hts⟩
  intro n
  induction n with
  | zero =>
    intro y1 y2 ls hl h
    rw [f_X2_personsUnderOath_L4] at h
    cases h
  | succ n ih =>
    intro y1 y2 ls hl h
    rw [f_X2_personsUnderOath_L4] at h
    refine lv_iload_n hx hb dX2_personsUnderOath_4 rfl (lv_at hl 2 rfl) ?_
    refine lv_aload_n hx hb dX2_personsUnderOath_5 rfl (lv_at hl 0 rfl) ?_
    refine va_get (D := D) (v := .int z0.2.2.1) (C := RX2) (T := TX2) (N := 6) hx hb hts iw_X2 hown hK hP 0 rfl rfl 2 (by decide) (hts _ mw_8) (fun _ h9 => h9) rfl dX2_personsUnderOath_6 ?_
    refine lv_icmp_ge (tgt := 32) hx hb dX2_personsUnderOath_9 (by decide) (fun c1 => ?_) (fun c1 => ?_)
    · have h := xt c1 h
      cases h
      exact hj _ (lv_sub hl [1] rfl)
    · have h := xf c1 h
      refine lv_aload_n hx hb dX2_personsUnderOath_12 rfl (lv_at hl 0 rfl) ?_
      refine lv_iload_n hx hb dX2_personsUnderOath_13 rfl (lv_at hl 2 rfl) ?_
      obtain ⟨x2, h3, h⟩ := bE h
      refine x_RV (As := [.int y2]) (rest := []) hF (c_X2_oathLeft l D cI cZ cT o a z0 y2 x2 h3) (cwV 1 hts (gqV mw_118 mw_119 mw_120 mw_15 mw_70) rfl rfl rfl hd_X2_oathLeft ⟨Nat.le_of_ble_eq_true rfl, Nat.le_of_ble_eq_true rfl⟩) hK hP q_T_bl (fun _ _ _ => trivial) [0, 1] rfl rfl rfl rfl hl.1 rfl (Nat.le_of_ble_eq_true rfl) dX2_personsUnderOath_14 ⟨Nat.zero_le _, Nat.zero_le _⟩ ?_
      refine lv_if_le (tgt := 26) hx hb dX2_personsUnderOath_17 (by decide) (fun c4 => ?_) (fun c4 => ?_)
      · have h := xt c4 h
        refine lv_iinc (v := (y2 + (1 : Int32))) (lv' := [(2, .int (y2 + (1 : Int32))), (0, .ref o), (1, .int y1)]) hx hb dX2_personsUnderOath_26 hl (k := 2) rfl rfl (by decide) rfl (fun ls hl => ?_)
        refine lv_goto (tgt := 4) hx hb dX2_personsUnderOath_29 (by decide) ?_
        exact ih y1 (y2 + (1 : Int32)) _ (lv_sub hl [1, 2, 0] rfl) h
      · have h := xf c4 h
        refine lv_iload_n hx hb dX2_personsUnderOath_20 rfl (lv_at hl 1 rfl) ?_
        refine lv_iconst (v := 1) hx hb dX2_personsUnderOath_21 (by decide) ?_
        refine lv_iload_n hx hb dX2_personsUnderOath_22 rfl (lv_at hl 2 rfl) ?_
        refine lv_ishl hx hb dX2_personsUnderOath_23 ?_
        refine lv_ior hx hb dX2_personsUnderOath_24 ?_
        refine lv_istore_n (lv' := [(1, .int (y1 ||| ((1 : Int32) <<< (y2 &&& 31)))), (0, .ref o), (2, .int y2)]) hx hb dX2_personsUnderOath_25 rfl hl (by decide) rfl (fun ls hl => ?_)
        refine lv_iinc (v := (y2 + (1 : Int32))) (lv' := [(2, .int (y2 + (1 : Int32))), (1, .int (y1 ||| ((1 : Int32) <<< (y2 &&& 31)))), (0, .ref o)]) hx hb dX2_personsUnderOath_26 hl (k := 2) rfl rfl (by decide) rfl (fun ls hl => ?_)
        refine lv_goto (tgt := 4) hx hb dX2_personsUnderOath_29 (by decide) ?_
        exact ih (y1 ||| ((1 : Int32) <<< (y2 &&& 31))) (y2 + (1 : Int32)) _ (lv_sub hl [2, 1, 0] rfl) h
set_option maxHeartbeats 4000000 in
set_option maxRecDepth 100000 in
theorem c_X2_personsUnderOath (l : Launch) (D : va_G) (cI cZ cT : ClassId) (o a : Nat) (t : TT) (r : Int32) (h : f_X2_personsUnderOath t = some r) : Met l yX2_personsUnderOath (wq yX2_personsUnderOath cX2_personsUnderOath 3 (some .int)) rm_X2_personsUnderOath (q_R D (q_tys cI cZ cT) (wT cI o a t) q_T [.ref o]) (vp_Si (fun r' => r' = r)) 0 0 (fun _ => False) := by
  refine q_RI (cc := cX2_personsUnderOath) (maxL := 3) (ret := (some .int)) (plainFor_of_name (by decide)) (Nat.le_of_ble_eq_true rfl) (fun p e s m below meth c C0 hP hK hE ls hl => ?_)
  have hl : lv_has ls 3 [(0, .ref o)] := hl
  obtain ⟨hx, hb, hr, hml, hown, hts, hlocks⟩ := id C0
  have hF : CallFix p m c cX2_personsUnderOath 3 s _ BW RX2 := ⟨hx, hb, hml, hown, hts⟩
  rw [f_X2_personsUnderOath] at h
  refine lv_iconst (v := 0) hx hb dX2_personsUnderOath_0 (by decide) ?_
  refine lv_istore_n (lv' := [(1, .int (0 : Int32)), (0, .ref o)]) hx hb dX2_personsUnderOath_1 rfl hl (by decide) rfl (fun ls hl => ?_)
  refine lv_iconst (v := 0) hx hb dX2_personsUnderOath_2 (by decide) ?_
  refine lv_istore_n (lv' := [(2, .int (0 : Int32)), (1, .int (0 : Int32)), (0, .ref o)]) hx hb dX2_personsUnderOath_3 rfl hl (by decide) rfl (fun ls hl => ?_)
  obtain ⟨v5, h6, h⟩ := bE h
  refine k_X2_personsUnderOath_L4 (v := v5) o a t C0 hK hP (fun ls hl => ?_) 2000 (0 : Int32) (0 : Int32) _ (lv_sub hl [2, 1, 0] rfl) h6
  refine lv_iload_n hx hb dX2_personsUnderOath_32 rfl (lv_at hl 0 rfl) ?_
  cases h
  exact x_retR C0 rfl dX2_personsUnderOath_33

end G_T2

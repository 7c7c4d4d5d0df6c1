section G_T3
variable {p : Program} {l : Launch} {e : Env} {s : State} {m : MethodId} {args : Array Value} {below : List Frame} {meth : Method} {c : Code} {D : va_G} {cI cZ cT : ClassId}

/-! QuarrelWays.Town.tellPerson (II)I -/
def f_X2_tellPerson (t : TT) (a1 : Int32) (a2 : Int32) : Option (Int32) := ((f_X2_hasPerson t a1).bind fun x1 => (if x1 = 0 then some (-1 : Int32) else (if a2 = (0 : Int32) then ((f_X2_read t (4 : Int32) a1).bind fun x6 => some x6) else (if a2 = (1 : Int32) then ((f_X2_read t (14 : Int32) a1).bind fun x9 => some x9) else (if a2 = (2 : Int32) then ((f_X2_read t (24 : Int32) a1).bind fun x12 => some x12) else (if a2 = (3 : Int32) then ((f_X2_oathLeft t a1).bind fun x15 => some x15) else (if a2 = (4 : Int32) then ((f_X2_quarrelsWith t (44 : Int32) a1).bind fun x18 => some x18) else (if a2 = (5 : Int32) then ((f_X2_quarrelsWith t (56 : Int32) a1).bind fun x21 => some x21) else (if a2 = (6 : Int32) then ((f_X2_quarrelsWith t (128 : Int32) a1).bind fun x24 => some x24) else (if a2 = (7 : Int32) then ((f_X2_duelsOf t a1).bind fun x27 => some x27) else (if a2 = (8 : Int32) then ((f_X2_personsWithSecond t a1).bind fun x30 => some x30) else some (-2 : Int32))))))))))))
abbrev rm_X2_tellPerson : Room := { frames := 2, cells := 0, slots := 0, locals := 47 }
theorem hd_X2_tellPerson : yX2_tellPerson.cls = RX2 ∧ yX2_tellPerson.cls ≠ "java/lang/invoke/MethodHandle" ∧ yX2_tellPerson.cls ≠ "java/lang/invoke/VarHandle" ∧ (parseMethodDescriptor yX2_tellPerson.desc).map (fun d => d.parameters.length) = some 2 := by decide +kernel
set_option maxHeartbeats 4000000 in
set_option maxRecDepth 100000 in
theorem c_X2_tellPerson (l : Launch) (D : va_G) (cI cZ cT : ClassId) (o a : Nat) (t : TT) (a1 : Int32) (a2 : Int32) (r : Int32) (h : f_X2_tellPerson t a1 a2 = some r) : Met l yX2_tellPerson (wq yX2_tellPerson cX2_tellPerson 3 (some .int)) rm_X2_tellPerson (q_R D (q_tys cI cZ cT) (wT cI o a t) q_T [.ref o, .int a1, .int a2]) (vp_Si (fun r' => r' = r)) 0 0 (fun _ => False) := by
  refine q_RI (cc := cX2_tellPerson) (maxL := 3) (ret := (some .int)) (plainFor_of_name (by decide)) (Nat.le_of_ble_eq_true rfl) (fun p e s m below meth c C0 hP hK hE ls hl => ?_)
  have hl : lv_has ls 3 [(0, .ref o), (1, .int a1), (2, .int a2)] := hl
  obtain ⟨hx, hb, hr, hml, hown, hts, hlocks⟩ := id C0
  have hF : CallFix p m c cX2_tellPerson 3 s _ BW RX2 := ⟨hx, hb, hml, hown, hts⟩
  rw [f_X2_tellPerson] at h
  refine lv_aload_n hx hb dX2_tellPerson_0 rfl (lv_at hl 0 rfl) ?_
  refine lv_iload_n hx hb dX2_tellPerson_1 rfl (lv_at hl 1 rfl) ?_
  obtain ⟨x1, h2, h⟩ := bE h
  refine x_RV (As := [.int a1]) (rest := []) hF (c_X2_hasPerson l D cI cZ cT o a t a1 x1 h2) (cwV 1 hts (gqV mw_84 mw_85 mw_86 mw_15 mw_62) rfl rfl rfl hd_X2_hasPerson ⟨Nat.le_of_ble_eq_true rfl, Nat.le_of_ble_eq_true rfl⟩) hK hP q_T_bl (fun _ _ _ => trivial) [0, 1] rfl rfl rfl rfl hl.1 rfl (Nat.le_of_ble_eq_true rfl) dX2_tellPerson_2 ⟨Nat.zero_le _, Nat.zero_le _⟩ ?_
  refine lv_if_ne (tgt := 10) hx hb dX2_tellPerson_5 (by decide) (fun c3 => ?_) (fun c3 => ?_)
  · have h := xf c3 h
    refine lv_iload_n hx hb dX2_tellPerson_10 rfl (lv_at hl 2 rfl) ?_
    by_cases c5 : a2 = (0 : Int32)
    · have h := xt c5 h
      refine lv_tableIn (tgt := 60) hx hb dX2_tellPerson_11 (by rw [c5]; decide) (by rw [c5]; decide) (off := 49) (by rw [c5]; rfl) (by decide) ?_
      refine lv_aload_n hx hb dX2_tellPerson_60 rfl (lv_at hl 0 rfl) ?_
      refine lv_iconst (v := 4) hx hb dX2_tellPerson_61 (by decide) ?_
      refine lv_iload_n hx hb dX2_tellPerson_62 rfl (lv_at hl 1 rfl) ?_
      obtain ⟨x6, h7, h⟩ := bE h
      refine x_RV (As := [.int (4 : Int32), .int a1]) (rest := []) hF (c_X2_read l D cI cZ cT o a t (4 : Int32) a1 x6 h7) (cwV 2 hts (gqV mw_65 mw_66 mw_67 mw_15 mw_61) rfl rfl rfl hd_X2_read ⟨Nat.le_of_ble_eq_true rfl, Nat.le_of_ble_eq_true rfl⟩) hK hP q_T_bl (fun _ _ _ => trivial) [0, 1] rfl rfl rfl rfl hl.1 rfl (Nat.le_of_ble_eq_true rfl) dX2_tellPerson_63 ⟨Nat.zero_le _, Nat.zero_le _⟩ ?_
      cases h
      exact x_retR C0 rfl dX2_tellPerson_66
    have h := xf c5 h
    by_cases c8 : a2 = (1 : Int32)
    · have h := xt c8 h
      refine lv_tableIn (tgt := 67) hx hb dX2_tellPerson_11 (by rw [c8]; decide) (by rw [c8]; decide) (off := 56) (by rw [c8]; rfl) (by decide) ?_
      refine lv_aload_n hx hb dX2_tellPerson_67 rfl (lv_at hl 0 rfl) ?_
      refine lv_bipush (v := 14) hx hb dX2_tellPerson_68 (by decide) ?_
      refine lv_iload_n hx hb dX2_tellPerson_70 rfl (lv_at hl 1 rfl) ?_
      obtain ⟨x9, h10, h⟩ := bE h
      refine x_RV (As := [.int (14 : Int32), .int a1]) (rest := []) hF (c_X2_read l D cI cZ cT o a t (14 : Int32) a1 x9 h10) (cwV 2 hts (gqV mw_65 mw_66 mw_67 mw_15 mw_61) rfl rfl rfl hd_X2_read ⟨Nat.le_of_ble_eq_true rfl, Nat.le_of_ble_eq_true rfl⟩) hK hP q_T_bl (fun _ _ _ => trivial) [0, 1] rfl rfl rfl rfl hl.1 rfl (Nat.le_of_ble_eq_true rfl) dX2_tellPerson_71 ⟨Nat.zero_le _, Nat.zero_le _⟩ ?_
      cases h
      exact x_retR C0 rfl dX2_tellPerson_74
    have h := xf c8 h
    by_cases c11 : a2 = (2 : Int32)
    · have h := xt c11 h
      refine lv_tableIn (tgt := 75) hx hb dX2_tellPerson_11 (by rw [c11]; decide) (by rw [c11]; decide) (off := 64) (by rw [c11]; rfl) (by decide) ?_
      refine lv_aload_n hx hb dX2_tellPerson_75 rfl (lv_at hl 0 rfl) ?_
      refine lv_bipush (v := 24) hx hb dX2_tellPerson_76 (by decide) ?_
      refine lv_iload_n hx hb dX2_tellPerson_78 rfl (lv_at hl 1 rfl) ?_
      obtain ⟨x12, h13, h⟩ := bE h
      refine x_RV (As := [.int (24 : Int32), .int a1]) (rest := []) hF (c_X2_read l D cI cZ cT o a t (24 : Int32) a1 x12 h13) (cwV 2 hts (gqV mw_65 mw_66 mw_67 mw_15 mw_61) rfl rfl rfl hd_X2_read ⟨Nat.le_of_ble_eq_true rfl, Nat.le_of_ble_eq_true rfl⟩) hK hP q_T_bl (fun _ _ _ => trivial) [0, 1] rfl rfl rfl rfl hl.1 rfl (Nat.le_of_ble_eq_true rfl) dX2_tellPerson_79 ⟨Nat.zero_le _, Nat.zero_le _⟩ ?_
      cases h
      exact x_retR C0 rfl dX2_tellPerson_82
    have h := xf c11 h
    by_cases c14 : a2 = (3 : Int32)
    · have h := xt c14 h
      refine lv_tableIn (tgt := 83) hx hb dX2_tellPerson_11 (by rw [c14]; decide) (by rw [c14]; decide) (off := 72) (by rw [c14]; rfl) (by decide) ?_
      refine lv_aload_n hx hb dX2_tellPerson_83 rfl (lv_at hl 0 rfl) ?_
      refine lv_iload_n hx hb dX2_tellPerson_84 rfl (lv_at hl 1 rfl) ?_
      obtain ⟨x15, h16, h⟩ := bE h
      refine x_RV (As := [.int a1]) (rest := []) hF (c_X2_oathLeft l D cI cZ cT o a t a1 x15 h16) (cwV 1 hts (gqV mw_118 mw_119 mw_120 mw_15 mw_70) rfl rfl rfl hd_X2_oathLeft ⟨Nat.le_of_ble_eq_true rfl, Nat.le_of_ble_eq_true rfl⟩) hK hP q_T_bl (fun _ _ _ => trivial) [0, 1] rfl rfl rfl rfl hl.1 rfl (Nat.le_of_ble_eq_true rfl) dX2_tellPerson_85 ⟨Nat.zero_le _, Nat.zero_le _⟩ ?_
      cases h
      exact x_retR C0 rfl dX2_tellPerson_88
    have h := xf c14 h
    by_cases c17 : a2 = (4 : Int32)
    · have h := xt c17 h
      refine lv_tableIn (tgt := 89) hx hb dX2_tellPerson_11 (by rw [c17]; decide) (by rw [c17]; decide) (off := 78) (by rw [c17]; rfl) (by decide) ?_
      refine lv_aload_n hx hb dX2_tellPerson_89 rfl (lv_at hl 0 rfl) ?_
      refine lv_bipush (v := 44) hx hb dX2_tellPerson_90 (by decide) ?_
      refine lv_iload_n hx hb dX2_tellPerson_92 rfl (lv_at hl 1 rfl) ?_
      obtain ⟨x18, h19, h⟩ := bE h
      refine x_RV (As := [.int (44 : Int32), .int a1]) (rest := []) hF (c_X2_quarrelsWith l D cI cZ cT o a t (44 : Int32) a1 x18 h19) (cwV 2 hts (gqV mw_143 mw_144 mw_145 mw_15 mw_133) rfl rfl rfl hd_X2_quarrelsWith ⟨Nat.le_of_ble_eq_true rfl, Nat.le_of_ble_eq_true rfl⟩) hK hP q_T_bl (fun _ _ _ => trivial) [0, 1] rfl rfl rfl rfl hl.1 rfl (Nat.le_of_ble_eq_true rfl) dX2_tellPerson_93 ⟨Nat.zero_le _, Nat.zero_le _⟩ ?_
      cases h
      exact x_retR C0 rfl dX2_tellPerson_96
    have h := xf c17 h
    by_cases c20 : a2 = (5 : Int32)
    · have h := xt c20 h
      refine lv_tableIn (tgt := 97) hx hb dX2_tellPerson_11 (by rw [c20]; decide) (by rw [c20]; decide) (off := 86) (by rw [c20]; rfl) (by decide) ?_
      refine lv_aload_n hx hb dX2_tellPerson_97 rfl (lv_at hl 0 rfl) ?_
      refine lv_bipush (v := 56) hx hb dX2_tellPerson_98 (by decide) ?_
      refine lv_iload_n hx hb dX2_tellPerson_100 rfl (lv_at hl 1 rfl) ?_
      obtain ⟨x21, h22, h⟩ := bE h
      refine x_RV (As := [.int (56 : Int32), .int a1]) (rest := []) hF (c_X2_quarrelsWith l D cI cZ cT o a t (56 : Int32) a1 x21 h22) (cwV 2 hts (gqV mw_143 mw_144 mw_145 mw_15 mw_133) rfl rfl rfl hd_X2_quarrelsWith ⟨Nat.le_of_ble_eq_true rfl, Nat.le_of_ble_eq_true rfl⟩) hK hP q_T_bl (fun _ _ _ => trivial) [0, 1] rfl rfl rfl rfl hl.1 rfl (Nat.le_of_ble_eq_true rfl) dX2_tellPerson_101 ⟨Nat.zero_le _, Nat.zero_le _⟩ ?_
      cases h
      exact x_retR C0 rfl dX2_tellPerson_104
    have h := xf c20 h
    by_cases c23 : a2 = (6 : Int32)
    · have h := xt c23 h
      refine lv_tableIn (tgt := 105) hx hb dX2_tellPerson_11 (by rw [c23]; decide) (by rw [c23]; decide) (off := 94) (by rw [c23]; rfl) (by decide) ?_
      refine lv_aload_n hx hb dX2_tellPerson_105 rfl (lv_at hl 0 rfl) ?_
      refine lv_sipush (v := 128) hx hb dX2_tellPerson_106 (by decide) ?_
      refine lv_iload_n hx hb dX2_tellPerson_109 rfl (lv_at hl 1 rfl) ?_
      obtain ⟨x24, h25, h⟩ := bE h
      refine x_RV (As := [.int (128 : Int32), .int a1]) (rest := []) hF (c_X2_quarrelsWith l D cI cZ cT o a t (128 : Int32) a1 x24 h25) (cwV 2 hts (gqV mw_143 mw_144 mw_145 mw_15 mw_133) rfl rfl rfl hd_X2_quarrelsWith ⟨Nat.le_of_ble_eq_true rfl, Nat.le_of_ble_eq_true rfl⟩) hK hP q_T_bl (fun _ _ _ => trivial) [0, 1] rfl rfl rfl rfl hl.1 rfl (Nat.le_of_ble_eq_true rfl) dX2_tellPerson_110 ⟨Nat.zero_le _, Nat.zero_le _⟩ ?_
      cases h
      exact x_retR C0 rfl dX2_tellPerson_113
    have h := xf c23 h
    by_cases c26 : a2 = (7 : Int32)
    · have h := xt c26 h
      refine lv_tableIn (tgt := 114) hx hb dX2_tellPerson_11 (by rw [c26]; decide) (by rw [c26]; decide) (off := 103) (by rw [c26]; rfl) (by decide) ?_
      refine lv_aload_n hx hb dX2_tellPerson_114 rfl (lv_at hl 0 rfl) ?_
      refine lv_iload_n hx hb dX2_tellPerson_115 rfl (lv_at hl 1 rfl) ?_
      obtain ⟨x27, h28, h⟩ := bE h
      refine x_RV (As := [.int a1]) (rest := []) hF (c_X2_duelsOf l D cI cZ cT o a t a1 x27 h28) (cwV 1 hts (gqV mw_181 mw_182 mw_183 mw_15 mw_179) rfl rfl rfl hd_X2_duelsOf ⟨Nat.le_of_ble_eq_true rfl, Nat.le_of_ble_eq_true rfl⟩) hK hP q_T_bl (fun _ _ _ => trivial) [0, 1] rfl rfl rfl rfl hl.1 rfl (Nat.le_of_ble_eq_true rfl) dX2_tellPerson_116 ⟨Nat.zero_le _, Nat.zero_le _⟩ ?_
      cases h
      exact x_retR C0 rfl dX2_tellPerson_119
    have h := xf c26 h
    by_cases c29 : a2 = (8 : Int32)
    · have h := xt c29 h
      refine lv_tableIn (tgt := 120) hx hb dX2_tellPerson_11 (by rw [c29]; decide) (by rw [c29]; decide) (off := 109) (by rw [c29]; rfl) (by decide) ?_
      refine lv_aload_n hx hb dX2_tellPerson_120 rfl (lv_at hl 0 rfl) ?_
      refine lv_iload_n hx hb dX2_tellPerson_121 rfl (lv_at hl 1 rfl) ?_
      obtain ⟨x30, h31, h⟩ := bE h
      refine x_RV (As := [.int a1]) (rest := []) hF (c_X2_personsWithSecond l D cI cZ cT o a t a1 x30 h31) (cwV 1 hts (gqV mw_184 mw_185 mw_186 mw_15 mw_180) rfl rfl rfl hd_X2_personsWithSecond ⟨Nat.le_of_ble_eq_true rfl, Nat.le_of_ble_eq_true rfl⟩) hK hP q_T_bl (fun _ _ _ => trivial) [0, 1] rfl rfl rfl rfl hl.1 rfl (Nat.le_of_ble_eq_true rfl) dX2_tellPerson_122 ⟨Nat.zero_le _, Nat.zero_le _⟩ ?_
      cases h
      exact x_retR C0 rfl dX2_tellPerson_125
    have h := xf c29 h
    refine lv_tableOut (tgt := 126) hx hb dX2_tellPerson_11 (by have := lv_neT c5 (a := 0) rfl; have := lv_neT c8 (a := 1) rfl; have := lv_neT c11 (a := 2) rfl; have := lv_neT c14 (a := 3) rfl; have := lv_neT c17 (a := 4) rfl; have := lv_neT c20 (a := 5) rfl; have := lv_neT c23 (a := 6) rfl; have := lv_neT c26 (a := 7) rfl; have := lv_neT c29 (a := 8) rfl; omega) (by decide) ?_
    refine lv_bipush (v := (-2)) hx hb dX2_tellPerson_126 (by decide) ?_
    cases h
    exact x_retR C0 rfl dX2_tellPerson_128
  · have h := xt c3 h
    refine lv_iconst (v := (-1)) hx hb dX2_tellPerson_8 (by decide) ?_
    cases h
    exact x_retR C0 rfl dX2_tellPerson_9

/-! QuarrelWays.Town.tellQuarrel (II)I -/
def f_X2_tellQuarrel (t : TT) (a1 : Int32) (a2 : Int32) : Option (Int32) := ((f_X2_hasQuarrel t a1).bind fun x1 => (if x1 = 0 then some (-1 : Int32) else (if a2 = (0 : Int32) then ((f_X2_read t (44 : Int32) a1).bind fun x6 => some x6) else (if a2 = (1 : Int32) then ((f_X2_read t (56 : Int32) a1).bind fun x9 => some x9) else (if a2 = (2 : Int32) then ((f_X2_read t (68 : Int32) a1).bind fun x12 => some x12) else (if a2 = (3 : Int32) then ((f_X2_hoursSince t a1).bind fun x15 => some x15) else (if a2 = (4 : Int32) then ((f_X2_read t (92 : Int32) a1).bind fun x18 => some x18) else (if a2 = (5 : Int32) then ((f_X2_read t (104 : Int32) a1).bind fun x21 => some x21) else (if a2 = (6 : Int32) then ((f_X2_read t (128 : Int32) a1).bind fun x24 => some x24) else (if a2 = (7 : Int32) then ((f_X2_waysOf t a1).bind fun x27 => some x27) else some (-2 : Int32)))))))))))
abbrev rm_X2_tellQuarrel : Room := { frames := 4, cells := 0, slots := 0, locals := 94 }
theorem hd_X2_tellQuarrel : yX2_tellQuarrel.cls = RX2 ∧ yX2_tellQuarrel.cls ≠ "java/lang/invoke/MethodHandle" ∧ yX2_tellQuarrel.cls ≠ "java/lang/invoke/VarHandle" ∧ (parseMethodDescriptor yX2_tellQuarrel.desc).map (fun d => d.parameters.length) = some 2 := by decide +kernel
set_option maxHeartbeats 4000000 in
set_option maxRecDepth 100000 in
theorem c_X2_tellQuarrel (l : Launch) (D : va_G) (cI cZ cT : ClassId) (o a : Nat) (t : TT) (a1 : Int32) (a2 : Int32) (r : Int32) (h : f_X2_tellQuarrel t a1 a2 = some r) : Met l yX2_tellQuarrel (wq yX2_tellQuarrel cX2_tellQuarrel 3 (some .int)) rm_X2_tellQuarrel (q_R D (q_tys cI cZ cT) (wT cI o a t) q_T [.ref o, .int a1, .int a2]) (vp_Si (fun r' => r' = r)) 0 0 (fun _ => False) := by
  refine q_RI (cc := cX2_tellQuarrel) (maxL := 3) (ret := (some .int)) (plainFor_of_name (by decide)) (Nat.le_of_ble_eq_true rfl) (fun p e s m below meth c C0 hP hK hE ls hl => ?_)
  have hl : lv_has ls 3 [(0, .ref o), (1, .int a1), (2, .int a2)] := hl
  obtain ⟨hx, hb, hr, hml, hown, hts, hlocks⟩ := id C0
  have hF : CallFix p m c cX2_tellQuarrel 3 s _ BW RX2 := ⟨hx, hb, hml, hown, hts⟩
  rw [f_X2_tellQuarrel] at h
  refine lv_aload_n hx hb dX2_tellQuarrel_0 rfl (lv_at hl 0 rfl) ?_
  refine lv_iload_n hx hb dX2_tellQuarrel_1 rfl (lv_at hl 1 rfl) ?_
  obtain ⟨x1, h2, h⟩ := bE h
  refine x_RV (As := [.int a1]) (rest := []) hF (c_X2_hasQuarrel l D cI cZ cT o a t a1 x1 h2) (cwV 1 hts (gqV mw_134 mw_135 mw_136 mw_15 mw_63) rfl rfl rfl hd_X2_hasQuarrel ⟨Nat.le_of_ble_eq_true rfl, Nat.le_of_ble_eq_true rfl⟩) hK hP q_T_bl (fun _ _ _ => trivial) [0, 1] rfl rfl rfl rfl hl.1 rfl (Nat.le_of_ble_eq_true rfl) dX2_tellQuarrel_2 ⟨Nat.zero_le _, Nat.zero_le _⟩ ?_
  refine lv_if_ne (tgt := 10) hx hb dX2_tellQuarrel_5 (by decide) (fun c3 => ?_) (fun c3 => ?_)
  · have h := xf c3 h
    refine lv_iload_n hx hb dX2_tellQuarrel_10 rfl (lv_at hl 2 rfl) ?_
    by_cases c5 : a2 = (0 : Int32)
    · have h := xt c5 h
      refine lv_tableIn (tgt := 56) hx hb dX2_tellQuarrel_11 (by rw [c5]; decide) (by rw [c5]; decide) (off := 45) (by rw [c5]; rfl) (by decide) ?_
      refine lv_aload_n hx hb dX2_tellQuarrel_56 rfl (lv_at hl 0 rfl) ?_
      refine lv_bipush (v := 44) hx hb dX2_tellQuarrel_57 (by decide) ?_
      refine lv_iload_n hx hb dX2_tellQuarrel_59 rfl (lv_at hl 1 rfl) ?_
      obtain ⟨x6, h7, h⟩ := bE h
      refine x_RV (As := [.int (44 : Int32), .int a1]) (rest := []) hF (c_X2_read l D cI cZ cT o a t (44 : Int32) a1 x6 h7) (cwV 2 hts (gqV mw_65 mw_66 mw_67 mw_15 mw_61) rfl rfl rfl hd_X2_read ⟨Nat.le_of_ble_eq_true rfl, Nat.le_of_ble_eq_true rfl⟩) hK hP q_T_bl (fun _ _ _ => trivial) [0, 1] rfl rfl rfl rfl hl.1 rfl (Nat.le_of_ble_eq_true rfl) dX2_tellQuarrel_60 ⟨Nat.zero_le _, Nat.zero_le _⟩ ?_
      cases h
      exact x_retR C0 rfl dX2_tellQuarrel_63
    have h := xf c5 h
    by_cases c8 : a2 = (1 : Int32)
    · have h := xt c8 h
      refine lv_tableIn (tgt := 64) hx hb dX2_tellQuarrel_11 (by rw [c8]; decide) (by rw [c8]; decide) (off := 53) (by rw [c8]; rfl) (by decide) ?_
      refine lv_aload_n hx hb dX2_tellQuarrel_64 rfl (lv_at hl 0 rfl) ?_
      refine lv_bipush (v := 56) hx hb dX2_tellQuarrel_65 (by decide) ?_
      refine lv_iload_n hx hb dX2_tellQuarrel_67 rfl (lv_at hl 1 rfl) ?_
      obtain ⟨x9, h10, h⟩ := bE h
      refine x_RV (As := [.int (56 : Int32), .int a1]) (rest := []) hF (c_X2_read l D cI cZ cT o a t (56 : Int32) a1 x9 h10) (cwV 2 hts (gqV mw_65 mw_66 mw_67 mw_15 mw_61) rfl rfl rfl hd_X2_read ⟨Nat.le_of_ble_eq_true rfl, Nat.le_of_ble_eq_true rfl⟩) hK hP q_T_bl (fun _ _ _ => trivial) [0, 1] rfl rfl rfl rfl hl.1 rfl (Nat.le_of_ble_eq_true rfl) dX2_tellQuarrel_68 ⟨Nat.zero_le _, Nat.zero_le _⟩ ?_
      cases h
      exact x_retR C0 rfl dX2_tellQuarrel_71
    have h := xf c8 h
    by_cases c11 : a2 = (2 : Int32)
    · have h := xt c11 h
      refine lv_tableIn (tgt := 72) hx hb dX2_tellQuarrel_11 (by rw [c11]; decide) (by rw [c11]; decide) (off := 61) (by rw [c11]; rfl) (by decide) ?_
      refine lv_aload_n hx hb dX2_tellQuarrel_72 rfl (lv_at hl 0 rfl) ?_
      refine lv_bipush (v := 68) hx hb dX2_tellQuarrel_73 (by decide) ?_
      refine lv_iload_n hx hb dX2_tellQuarrel_75 rfl (lv_at hl 1 rfl) ?_
      obtain ⟨x12, h13, h⟩ := bE h
      refine x_RV (As := [.int (68 : Int32), .int a1]) (rest := []) hF (c_X2_read l D cI cZ cT o a t (68 : Int32) a1 x12 h13) (cwV 2 hts (gqV mw_65 mw_66 mw_67 mw_15 mw_61) rfl rfl rfl hd_X2_read ⟨Nat.le_of_ble_eq_true rfl, Nat.le_of_ble_eq_true rfl⟩) hK hP q_T_bl (fun _ _ _ => trivial) [0, 1] rfl rfl rfl rfl hl.1 rfl (Nat.le_of_ble_eq_true rfl) dX2_tellQuarrel_76 ⟨Nat.zero_le _, Nat.zero_le _⟩ ?_
      cases h
      exact x_retR C0 rfl dX2_tellQuarrel_79
    have h := xf c11 h
    by_cases c14 : a2 = (3 : Int32)
    · have h := xt c14 h
      refine lv_tableIn (tgt := 80) hx hb dX2_tellQuarrel_11 (by rw [c14]; decide) (by rw [c14]; decide) (off := 69) (by rw [c14]; rfl) (by decide) ?_
      refine lv_aload_n hx hb dX2_tellQuarrel_80 rfl (lv_at hl 0 rfl) ?_
      refine lv_iload_n hx hb dX2_tellQuarrel_81 rfl (lv_at hl 1 rfl) ?_
      obtain ⟨x15, h16, h⟩ := bE h
      refine x_RV (As := [.int a1]) (rest := []) hF (c_X2_hoursSince l D cI cZ cT o a t a1 x15 h16) (cwV 1 hts (gqV mw_125 mw_126 mw_127 mw_15 mw_69) rfl rfl rfl hd_X2_hoursSince ⟨Nat.le_of_ble_eq_true rfl, Nat.le_of_ble_eq_true rfl⟩) hK hP q_T_bl (fun _ _ _ => trivial) [0, 1] rfl rfl rfl rfl hl.1 rfl (Nat.le_of_ble_eq_true rfl) dX2_tellQuarrel_82 ⟨Nat.zero_le _, Nat.zero_le _⟩ ?_
      cases h
      exact x_retR C0 rfl dX2_tellQuarrel_85
    have h := xf c14 h
    by_cases c17 : a2 = (4 : Int32)
    · have h := xt c17 h
      refine lv_tableIn (tgt := 86) hx hb dX2_tellQuarrel_11 (by rw [c17]; decide) (by rw [c17]; decide) (off := 75) (by rw [c17]; rfl) (by decide) ?_
      refine lv_aload_n hx hb dX2_tellQuarrel_86 rfl (lv_at hl 0 rfl) ?_
      refine lv_bipush (v := 92) hx hb dX2_tellQuarrel_87 (by decide) ?_
      refine lv_iload_n hx hb dX2_tellQuarrel_89 rfl (lv_at hl 1 rfl) ?_
      obtain ⟨x18, h19, h⟩ := bE h
      refine x_RV (As := [.int (92 : Int32), .int a1]) (rest := []) hF (c_X2_read l D cI cZ cT o a t (92 : Int32) a1 x18 h19) (cwV 2 hts (gqV mw_65 mw_66 mw_67 mw_15 mw_61) rfl rfl rfl hd_X2_read ⟨Nat.le_of_ble_eq_true rfl, Nat.le_of_ble_eq_true rfl⟩) hK hP q_T_bl (fun _ _ _ => trivial) [0, 1] rfl rfl rfl rfl hl.1 rfl (Nat.le_of_ble_eq_true rfl) dX2_tellQuarrel_90 ⟨Nat.zero_le _, Nat.zero_le _⟩ ?_
      cases h
      exact x_retR C0 rfl dX2_tellQuarrel_93
    have h := xf c17 h
    by_cases c20 : a2 = (5 : Int32)
    · have h := xt c20 h
      refine lv_tableIn (tgt := 94) hx hb dX2_tellQuarrel_11 (by rw [c20]; decide) (by rw [c20]; decide) (off := 83) (by rw [c20]; rfl) (by decide) ?_
      refine lv_aload_n hx hb dX2_tellQuarrel_94 rfl (lv_at hl 0 rfl) ?_
      refine lv_bipush (v := 104) hx hb dX2_tellQuarrel_95 (by decide) ?_
      refine lv_iload_n hx hb dX2_tellQuarrel_97 rfl (lv_at hl 1 rfl) ?_
      obtain ⟨x21, h22, h⟩ := bE h
      refine x_RV (As := [.int (104 : Int32), .int a1]) (rest := []) hF (c_X2_read l D cI cZ cT o a t (104 : Int32) a1 x21 h22) (cwV 2 hts (gqV mw_65 mw_66 mw_67 mw_15 mw_61) rfl rfl rfl hd_X2_read ⟨Nat.le_of_ble_eq_true rfl, Nat.le_of_ble_eq_true rfl⟩) hK hP q_T_bl (fun _ _ _ => trivial) [0, 1] rfl rfl rfl rfl hl.1 rfl (Nat.le_of_ble_eq_true rfl) dX2_tellQuarrel_98 ⟨Nat.zero_le _, Nat.zero_le _⟩ ?_
      cases h
      exact x_retR C0 rfl dX2_tellQuarrel_101
    have h := xf c20 h
    by_cases c23 : a2 = (6 : Int32)
    · have h := xt c23 h
      refine lv_tableIn (tgt := 102) hx hb dX2_tellQuarrel_11 (by rw [c23]; decide) (by rw [c23]; decide) (off := 91) (by rw [c23]; rfl) (by decide) ?_
      refine lv_aload_n hx hb dX2_tellQuarrel_102 rfl (lv_at hl 0 rfl) ?_
      refine lv_sipush (v := 128) hx hb dX2_tellQuarrel_103 (by decide) ?_
      refine lv_iload_n hx hb dX2_tellQuarrel_106 rfl (lv_at hl 1 rfl) ?_
      obtain ⟨x24, h25, h⟩ := bE h
      refine x_RV (As := [.int (128 : Int32), .int a1]) (rest := []) hF (c_X2_read l D cI cZ cT o a t (128 : Int32) a1 x24 h25) (cwV 2 hts (gqV mw_65 mw_66 mw_67 mw_15 mw_61) rfl rfl rfl hd_X2_read ⟨Nat.le_of_ble_eq_true rfl, Nat.le_of_ble_eq_true rfl⟩) hK hP q_T_bl (fun _ _ _ => trivial) [0, 1] rfl rfl rfl rfl hl.1 rfl (Nat.le_of_ble_eq_true rfl) dX2_tellQuarrel_107 ⟨Nat.zero_le _, Nat.zero_le _⟩ ?_
      cases h
      exact x_retR C0 rfl dX2_tellQuarrel_110
    have h := xf c23 h
    by_cases c26 : a2 = (7 : Int32)
    · have h := xt c26 h
      refine lv_tableIn (tgt := 111) hx hb dX2_tellQuarrel_11 (by rw [c26]; decide) (by rw [c26]; decide) (off := 100) (by rw [c26]; rfl) (by decide) ?_
      refine lv_aload_n hx hb dX2_tellQuarrel_111 rfl (lv_at hl 0 rfl) ?_
      refine lv_iload_n hx hb dX2_tellQuarrel_112 rfl (lv_at hl 1 rfl) ?_
      obtain ⟨x27, h28, h⟩ := bE h
      refine x_RV (As := [.int a1]) (rest := []) hF (c_X2_waysOf l D cI cZ cT o a t a1 x27 h28) (cwV 1 hts (gqV mw_137 mw_138 mw_139 mw_15 mw_131) rfl rfl rfl hd_X2_waysOf ⟨Nat.le_of_ble_eq_true rfl, Nat.le_of_ble_eq_true rfl⟩) hK hP q_T_bl (fun _ _ _ => trivial) [0, 1] rfl rfl rfl rfl hl.1 rfl (Nat.le_of_ble_eq_true rfl) dX2_tellQuarrel_113 ⟨Nat.zero_le _, Nat.zero_le _⟩ ?_
      cases h
      exact x_retR C0 rfl dX2_tellQuarrel_116
    have h := xf c26 h
    refine lv_tableOut (tgt := 117) hx hb dX2_tellQuarrel_11 (by have := lv_neT c5 (a := 0) rfl; have := lv_neT c8 (a := 1) rfl; have := lv_neT c11 (a := 2) rfl; have := lv_neT c14 (a := 3) rfl; have := lv_neT c17 (a := 4) rfl; have := lv_neT c20 (a := 5) rfl; have := lv_neT c23 (a := 6) rfl; have := lv_neT c26 (a := 7) rfl; omega) (by decide) ?_
    refine lv_bipush (v := (-2)) hx hb dX2_tellQuarrel_117 (by decide) ?_
    cases h
    exact x_retR C0 rfl dX2_tellQuarrel_119
  · have h := xt c3 h
    refine lv_iconst (v := (-1)) hx hb dX2_tellQuarrel_8 (by decide) ?_
    cases h
    exact x_retR C0 rfl dX2_tellQuarrel_9

/-! QuarrelWays.Town.tellEvent (II)I -/
def f_X2_tellEvent (t : TT) (a1 : Int32) (a2 : Int32) : Option (Int32) := (if a1 < 0 then some (-1 : Int32) else (if a1 < (if (12 : Int32) < t.2.2.2.2.1 then (12 : Int32) else t.2.2.2.2.1) then ((f_J9_floorMod_7cf53 ((t.2.2.2.2.1 - (1 : Int32)) - a1) (12 : Int32)).bind fun x3 => (if a2 = (0 : Int32) then ((f_X2_read t (140 : Int32) x3).bind fun x7 => some x7) else (if a2 = (1 : Int32) then ((f_X2_read t (152 : Int32) x3).bind fun x10 => some x10) else (if a2 = (2 : Int32) then ((f_X2_read t (164 : Int32) x3).bind fun x13 => some x13) else some (-2 : Int32))))) else some (-1 : Int32)))
abbrev rm_X2_tellEvent : Room := { frames := 1, cells := 0, slots := 0, locals := 24 }
theorem hd_X2_tellEvent : yX2_tellEvent.cls = RX2 ∧ yX2_tellEvent.cls ≠ "java/lang/invoke/MethodHandle" ∧ yX2_tellEvent.cls ≠ "java/lang/invoke/VarHandle" ∧ (parseMethodDescriptor yX2_tellEvent.desc).map (fun d => d.parameters.length) = some 2 := by decide +kernel
set_option maxHeartbeats 4000000 in
set_option maxRecDepth 100000 in
theorem c_X2_tellEvent (l : Launch) (D : va_G) (cI cZ cT : ClassId) (o a : Nat) (t : TT) (a1 : Int32) (a2 : Int32) (r : Int32) (h : f_X2_tellEvent t a1 a2 = some r) : Met l yX2_tellEvent (wq yX2_tellEvent cX2_tellEvent 4 (some .int)) rm_X2_tellEvent (q_R D (q_tys cI cZ cT) (wT cI o a t) q_T [.ref o, .int a1, .int a2]) (vp_Si (fun r' => r' = r)) 0 0 (fun _ => False) := by
  refine q_RI (cc := cX2_tellEvent) (maxL := 4) (ret := (some .int)) (plainFor_of_name (by decide)) (Nat.le_of_ble_eq_true rfl) (fun p e s m below meth c C0 hP hK hE ls hl => ?_)
  have hl : lv_has ls 4 [(0, .ref o), (1, .int a1), (2, .int a2)] := hl
  obtain ⟨hx, hb, hr, hml, hown, hts, hlocks⟩ := id C0
  have hF : CallFix p m c cX2_tellEvent 4 s _ BW RX2 := ⟨hx, hb, hml, hown, hts⟩
  rw [f_X2_tellEvent] at h
  refine lv_iload_n hx hb dX2_tellEvent_0 rfl (lv_at hl 1 rfl) ?_
  refine lv_if_lt (tgt := 17) hx hb dX2_tellEvent_1 (by decide) (fun c1 => ?_) (fun c1 => ?_)
  · have h := xt c1 h
    refine lv_iconst (v := (-1)) hx hb dX2_tellEvent_17 (by decide) ?_
    cases h
    exact x_retR C0 rfl dX2_tellEvent_18
  · have h := xf c1 h
    refine lv_iload_n hx hb dX2_tellEvent_4 rfl (lv_at hl 1 rfl) ?_
    refine lv_aload_n hx hb dX2_tellEvent_5 rfl (lv_at hl 0 rfl) ?_
    refine va_get (D := D) (v := .int t.2.2.2.2.1) (C := RX2) (T := TX2) (N := 6) hx hb hts iw_X2 hown hK hP 0 rfl rfl 4 (by decide) (hts _ mw_10) (fun _ h9 => h9) rfl dX2_tellEvent_6 ?_
    refine lv_bipush (v := 12) hx hb dX2_tellEvent_9 (by decide) ?_
    refine va_mmin hx hb (hml.trans hl.1.symm) hown (hts _ mw_35) (hts _ mw_36) (hts _ mw_28) (hts _ mw_37) (Nat.le_of_ble_eq_true rfl) (Nat.le_of_ble_eq_true rfl) (Nat.zero_le _) (Nat.zero_le _) dX2_tellEvent_11 ?_
    refine lv_icmp_lt (tgt := 19) hx hb dX2_tellEvent_14 (by decide) (fun c2 => ?_) (fun c2 => ?_)
    · have h := xt c2 h
      refine lv_aload_n hx hb dX2_tellEvent_19 rfl (lv_at hl 0 rfl) ?_
      refine va_get (D := D) (v := .int t.2.2.2.2.1) (C := RX2) (T := TX2) (N := 6) hx hb hts iw_X2 hown hK hP 0 rfl rfl 4 (by decide) (hts _ mw_10) (fun _ h9 => h9) rfl dX2_tellEvent_20 ?_
      refine lv_iconst (v := 1) hx hb dX2_tellEvent_23 (by decide) ?_
      refine lv_isub hx hb dX2_tellEvent_24 ?_
      refine lv_iload_n hx hb dX2_tellEvent_25 rfl (lv_at hl 1 rfl) ?_
      refine lv_isub hx hb dX2_tellEvent_26 ?_
      refine lv_bipush (v := 12) hx hb dX2_tellEvent_27 (by decide) ?_
      obtain ⟨x3, h4, h⟩ := bE h
      refine x_RS (As := [.int ((t.2.2.2.2.1 - (1 : Int32)) - a1), .int (12 : Int32)]) (rest := []) hF (c_J9_floorMod_7cf53 l D cI cZ cT  ((t.2.2.2.2.1 - (1 : Int32)) - a1) (12 : Int32) x3 h4) (va_cwS 2 hts (gqS mw_98 mw_27 mw_28 mw_24) rfl rfl rfl hd_J9_floorMod_7cf53.2 ⟨Nat.le_of_ble_eq_true rfl, Nat.le_of_ble_eq_true rfl⟩) hK hP q_T_bl (fun _ _ _ => trivial) [] rfl rfl hl.1 rfl (Nat.le_of_ble_eq_true rfl) dX2_tellEvent_29 ⟨Nat.zero_le _, Nat.zero_le _⟩ ?_
      refine lv_istore_n (lv' := [(3, .int x3), (0, .ref o), (1, .int a1), (2, .int a2)]) hx hb dX2_tellEvent_32 rfl hl (by decide) rfl (fun ls hl => ?_)
      refine lv_iload_n hx hb dX2_tellEvent_33 rfl (lv_at hl 3 rfl) ?_
      by_cases c6 : a2 = (0 : Int32)
      · have h := xt c6 h
        refine lv_tableIn (tgt := 60) hx hb dX2_tellEvent_34 (by rw [c6]; decide) (by rw [c6]; decide) (off := 26) (by rw [c6]; rfl) (by decide) ?_
        refine lv_aload_n hx hb dX2_tellEvent_60 rfl (lv_at hl 1 rfl) ?_
        refine lv_sipush (v := 140) hx hb dX2_tellEvent_61 (by decide) ?_
        refine lv_iload_n hx hb dX2_tellEvent_64 rfl (lv_at hl 0 rfl) ?_
        obtain ⟨x7, h8, h⟩ := bE h
        refine x_RV (As := [.int (140 : Int32), .int x3]) (rest := []) hF (c_X2_read l D cI cZ cT o a t (140 : Int32) x3 x7 h8) (cwV 2 hts (gqV mw_65 mw_66 mw_67 mw_15 mw_61) rfl rfl rfl hd_X2_read ⟨Nat.le_of_ble_eq_true rfl, Nat.le_of_ble_eq_true rfl⟩) hK hP q_T_bl (fun _ _ _ => trivial) [0, 1] rfl rfl rfl rfl hl.1 rfl (Nat.le_of_ble_eq_true rfl) dX2_tellEvent_65 ⟨Nat.zero_le _, Nat.zero_le _⟩ ?_
        cases h
        exact x_retR C0 rfl dX2_tellEvent_68
      have h := xf c6 h
      by_cases c9 : a2 = (1 : Int32)
      · have h := xt c9 h
        refine lv_tableIn (tgt := 69) hx hb dX2_tellEvent_34 (by rw [c9]; decide) (by rw [c9]; decide) (off := 35) (by rw [c9]; rfl) (by decide) ?_
        refine lv_aload_n hx hb dX2_tellEvent_69 rfl (lv_at hl 1 rfl) ?_
        refine lv_sipush (v := 152) hx hb dX2_tellEvent_70 (by decide) ?_
        refine lv_iload_n hx hb dX2_tellEvent_73 rfl (lv_at hl 0 rfl) ?_
        obtain ⟨x10, h11, h⟩ := bE h
        refine x_RV (As := [.int (152 : Int32), .int x3]) (rest := []) hF (c_X2_read l D cI cZ cT o a t (152 : Int32) x3 x10 h11) (cwV 2 hts (gqV mw_65 mw_66 mw_67 mw_15 mw_61) rfl rfl rfl hd_X2_read ⟨Nat.le_of_ble_eq_true rfl, Nat.le_of_ble_eq_true rfl⟩) hK hP q_T_bl (fun _ _ _ => trivial) [0, 1] rfl rfl rfl rfl hl.1 rfl (Nat.le_of_ble_eq_true rfl) dX2_tellEvent_74 ⟨Nat.zero_le _, Nat.zero_le _⟩ ?_
        cases h
        exact x_retR C0 rfl dX2_tellEvent_77
      have h := xf c9 h
      by_cases c12 : a2 = (2 : Int32)
      · have h := xt c12 h
        refine lv_tableIn (tgt := 78) hx hb dX2_tellEvent_34 (by rw [c12]; decide) (by rw [c12]; decide) (off := 44) (by rw [c12]; rfl) (by decide) ?_
        refine lv_aload_n hx hb dX2_tellEvent_78 rfl (lv_at hl 1 rfl) ?_
        refine lv_sipush (v := 164) hx hb dX2_tellEvent_79 (by decide) ?_
        refine lv_iload_n hx hb dX2_tellEvent_82 rfl (lv_at hl 0 rfl) ?_
        obtain ⟨x13, h14, h⟩ := bE h
        refine x_RV (As := [.int (164 : Int32), .int x3]) (rest := []) hF (c_X2_read l D cI cZ cT o a t (164 : Int32) x3 x13 h14) (cwV 2 hts (gqV mw_65 mw_66 mw_67 mw_15 mw_61) rfl rfl rfl hd_X2_read ⟨Nat.le_of_ble_eq_true rfl, Nat.le_of_ble_eq_true rfl⟩) hK hP q_T_bl (fun _ _ _ => trivial) [0, 1] rfl rfl rfl rfl hl.1 rfl (Nat.le_of_ble_eq_true rfl) dX2_tellEvent_83 ⟨Nat.zero_le _, Nat.zero_le _⟩ ?_
        cases h
        exact x_retR C0 rfl dX2_tellEvent_86
      have h := xf c12 h
      refine lv_tableOut (tgt := 87) hx hb dX2_tellEvent_34 (by have := lv_neT c6 (a := 0) rfl; have := lv_neT c9 (a := 1) rfl; have := lv_neT c12 (a := 2) rfl; omega) (by decide) ?_
      refine lv_bipush (v := (-2)) hx hb dX2_tellEvent_87 (by decide) ?_
      cases h
      exact x_retR C0 rfl dX2_tellEvent_89
    · have h := xf c2 h
      refine lv_iconst (v := (-1)) hx hb dX2_tellEvent_17 (by decide) ?_
      cases h
      exact x_retR C0 rfl dX2_tellEvent_18

/-! QuarrelWays.Town.tellNumber (I)I -/
def f_X2_tellNumber (t : TT) (a1 : Int32) : Option (Int32) := (if a1 = (0 : Int32) then some t.1 else (if a1 = (1 : Int32) then some t.2.2.1 else (if a1 = (2 : Int32) then some t.2.2.2.1 else (if a1 = (3 : Int32) then ((f_X2_openQuarrels t).bind fun x6 => some x6) else (if a1 = (4 : Int32) then ((f_X2_dueQuarrels t).bind fun x9 => some x9) else (if a1 = (5 : Int32) then ((f_X2_quarrelsWith t (92 : Int32) (1 : Int32)).bind fun x12 => some x12) else (if a1 = (6 : Int32) then ((f_X2_quarrelsWith t (92 : Int32) (2 : Int32)).bind fun x15 => some x15) else (if a1 = (7 : Int32) then some t.2.1 else (if a1 = (8 : Int32) then ((f_X2_personsUnderOath t).bind fun x19 => some x19) else (if a1 = (9 : Int32) then ((f_X2_read t (0 : Int32) (0 : Int32)).bind fun x22 => some x22) else (if a1 = (10 : Int32) then ((f_X2_read t (0 : Int32) (1 : Int32)).bind fun x25 => some x25) else (if a1 = (11 : Int32) then ((f_X2_read t (0 : Int32) (2 : Int32)).bind fun x28 => some x28) else (if a1 = (12 : Int32) then ((f_X2_read t (0 : Int32) (3 : Int32)).bind fun x31 => some x31) else some (-2 : Int32))))))))))))))
abbrev rm_X2_tellNumber : Room := { frames := 5, cells := 0, slots := 0, locals := 116 }
theorem hd_X2_tellNumber : yX2_tellNumber.cls = RX2 ∧ yX2_tellNumber.cls ≠ "java/lang/invoke/MethodHandle" ∧ yX2_tellNumber.cls ≠ "java/lang/invoke/VarHandle" ∧ (parseMethodDescriptor yX2_tellNumber.desc).map (fun d => d.parameters.length) = some 1 := by decide +kernel
set_option maxHeartbeats 4000000 in
set_option maxRecDepth 100000 in
theorem c_X2_tellNumber (l : Launch) (D : va_G) (cI cZ cT : ClassId) (o a : Nat) (t : TT) (a1 : Int32) (r : Int32) (h : f_X2_tellNumber t a1 = some r) : Met l yX2_tellNumber (wq yX2_tellNumber cX2_tellNumber 2 (some .int)) rm_X2_tellNumber (q_R D (q_tys cI cZ cT) (wT cI o a t) q_T [.ref o, .int a1]) (vp_Si (fun r' => r' = r)) 0 0 (fun _ => False) := by
  refine q_RI (cc := cX2_tellNumber) (maxL := 2) (ret := (some .int)) (plainFor_of_name (by decide)) (Nat.le_of_ble_eq_true rfl) (fun p e s m below meth c C0 hP hK hE ls hl => ?_)
  have hl : lv_has ls 2 [(0, .ref o), (1, .int a1)] := hl
  obtain ⟨hx, hb, hr, hml, hown, hts, hlocks⟩ := id C0
  have hF : CallFix p m c cX2_tellNumber 2 s _ BW RX2 := ⟨hx, hb, hml, hown, hts⟩
  rw [f_X2_tellNumber] at h
  refine lv_iload_n hx hb dX2_tellNumber_0 rfl (lv_at hl 1 rfl) ?_
  by_cases c2 : a1 = (0 : Int32)
  · have h := xt c2 h
    refine lv_tableIn (tgt := 68) hx hb dX2_tellNumber_1 (by rw [c2]; decide) (by rw [c2]; decide) (off := 67) (by rw [c2]; rfl) (by decide) ?_
    refine lv_aload_n hx hb dX2_tellNumber_68 rfl (lv_at hl 0 rfl) ?_
    refine va_get (D := D) (v := .int t.1) (C := RX2) (T := TX2) (N := 6) hx hb hts iw_X2 hown hK hP 0 rfl rfl 0 (by decide) (hts _ mw_6) (fun _ h9 => h9) rfl dX2_tellNumber_69 ?_
    cases h
    exact x_retR C0 rfl dX2_tellNumber_72
  have h := xf c2 h
  by_cases c3 : a1 = (1 : Int32)
  · have h := xt c3 h
    refine lv_tableIn (tgt := 73) hx hb dX2_tellNumber_1 (by rw [c3]; decide) (by rw [c3]; decide) (off := 72) (by rw [c3]; rfl) (by decide) ?_
    refine lv_aload_n hx hb dX2_tellNumber_73 rfl (lv_at hl 0 rfl) ?_
    refine va_get (D := D) (v := .int t.2.2.1) (C := RX2) (T := TX2) (N := 6) hx hb hts iw_X2 hown hK hP 0 rfl rfl 2 (by decide) (hts _ mw_8) (fun _ h9 => h9) rfl dX2_tellNumber_74 ?_
    cases h
    exact x_retR C0 rfl dX2_tellNumber_77
  have h := xf c3 h
  by_cases c4 : a1 = (2 : Int32)
  · have h := xt c4 h
    refine lv_tableIn (tgt := 78) hx hb dX2_tellNumber_1 (by rw [c4]; decide) (by rw [c4]; decide) (off := 77) (by rw [c4]; rfl) (by decide) ?_
    refine lv_aload_n hx hb dX2_tellNumber_78 rfl (lv_at hl 0 rfl) ?_
    refine va_get (D := D) (v := .int t.2.2.2.1) (C := RX2) (T := TX2) (N := 6) hx hb hts iw_X2 hown hK hP 0 rfl rfl 3 (by decide) (hts _ mw_9) (fun _ h9 => h9) rfl dX2_tellNumber_79 ?_
    cases h
    exact x_retR C0 rfl dX2_tellNumber_82
  have h := xf c4 h
  by_cases c5 : a1 = (3 : Int32)
  · have h := xt c5 h
    refine lv_tableIn (tgt := 83) hx hb dX2_tellNumber_1 (by rw [c5]; decide) (by rw [c5]; decide) (off := 82) (by rw [c5]; rfl) (by decide) ?_
    refine lv_aload_n hx hb dX2_tellNumber_83 rfl (lv_at hl 0 rfl) ?_
    obtain ⟨x6, h7, h⟩ := bE h
    refine x_RV (As := []) (rest := []) hF (c_X2_openQuarrels l D cI cZ cT o a t  x6 h7) (cwV 0 hts (gqV mw_203 mw_204 mw_205 mw_15 mw_200) rfl rfl rfl hd_X2_openQuarrels ⟨Nat.le_of_ble_eq_true rfl, Nat.le_of_ble_eq_true rfl⟩) hK hP q_T_bl (fun _ _ _ => trivial) [0, 1] rfl rfl rfl rfl hl.1 rfl (Nat.le_of_ble_eq_true rfl) dX2_tellNumber_84 ⟨Nat.zero_le _, Nat.zero_le _⟩ ?_
    cases h
    exact x_retR C0 rfl dX2_tellNumber_87
  have h := xf c5 h
  by_cases c8 : a1 = (4 : Int32)
  · have h := xt c8 h
    refine lv_tableIn (tgt := 88) hx hb dX2_tellNumber_1 (by rw [c8]; decide) (by rw [c8]; decide) (off := 87) (by rw [c8]; rfl) (by decide) ?_
    refine lv_aload_n hx hb dX2_tellNumber_88 rfl (lv_at hl 0 rfl) ?_
    obtain ⟨x9, h10, h⟩ := bE h
    refine x_RV (As := []) (rest := []) hF (c_X2_dueQuarrels l D cI cZ cT o a t  x9 h10) (cwV 0 hts (gqV mw_206 mw_207 mw_208 mw_15 mw_201) rfl rfl rfl hd_X2_dueQuarrels ⟨Nat.le_of_ble_eq_true rfl, Nat.le_of_ble_eq_true rfl⟩) hK hP q_T_bl (fun _ _ _ => trivial) [0, 1] rfl rfl rfl rfl hl.1 rfl (Nat.le_of_ble_eq_true rfl) dX2_tellNumber_89 ⟨Nat.zero_le _, Nat.zero_le _⟩ ?_
    cases h
    exact x_retR C0 rfl dX2_tellNumber_92
  have h := xf c8 h
  by_cases c11 : a1 = (5 : Int32)
  · have h := xt c11 h
    refine lv_tableIn (tgt := 93) hx hb dX2_tellNumber_1 (by rw [c11]; decide) (by rw [c11]; decide) (off := 92) (by rw [c11]; rfl) (by decide) ?_
    refine lv_aload_n hx hb dX2_tellNumber_93 rfl (lv_at hl 0 rfl) ?_
    refine lv_bipush (v := 92) hx hb dX2_tellNumber_94 (by decide) ?_
    refine lv_iconst (v := 1) hx hb dX2_tellNumber_96 (by decide) ?_
    obtain ⟨x12, h13, h⟩ := bE h
    refine x_RV (As := [.int (92 : Int32), .int (1 : Int32)]) (rest := []) hF (c_X2_quarrelsWith l D cI cZ cT o a t (92 : Int32) (1 : Int32) x12 h13) (cwV 2 hts (gqV mw_143 mw_144 mw_145 mw_15 mw_133) rfl rfl rfl hd_X2_quarrelsWith ⟨Nat.le_of_ble_eq_true rfl, Nat.le_of_ble_eq_true rfl⟩) hK hP q_T_bl (fun _ _ _ => trivial) [0, 1] rfl rfl rfl rfl hl.1 rfl (Nat.le_of_ble_eq_true rfl) dX2_tellNumber_97 ⟨Nat.zero_le _, Nat.zero_le _⟩ ?_
    cases h
    exact x_retR C0 rfl dX2_tellNumber_100
  have h := xf c11 h
  by_cases c14 : a1 = (6 : Int32)
  · have h := xt c14 h
    refine lv_tableIn (tgt := 101) hx hb dX2_tellNumber_1 (by rw [c14]; decide) (by rw [c14]; decide) (off := 100) (by rw [c14]; rfl) (by decide) ?_
    refine lv_aload_n hx hb dX2_tellNumber_101 rfl (lv_at hl 0 rfl) ?_
    refine lv_bipush (v := 92) hx hb dX2_tellNumber_102 (by decide) ?_
    refine lv_iconst (v := 2) hx hb dX2_tellNumber_104 (by decide) ?_
    obtain ⟨x15, h16, h⟩ := bE h
    refine x_RV (As := [.int (92 : Int32), .int (2 : Int32)]) (rest := []) hF (c_X2_quarrelsWith l D cI cZ cT o a t (92 : Int32) (2 : Int32) x15 h16) (cwV 2 hts (gqV mw_143 mw_144 mw_145 mw_15 mw_133) rfl rfl rfl hd_X2_quarrelsWith ⟨Nat.le_of_ble_eq_true rfl, Nat.le_of_ble_eq_true rfl⟩) hK hP q_T_bl (fun _ _ _ => trivial) [0, 1] rfl rfl rfl rfl hl.1 rfl (Nat.le_of_ble_eq_true rfl) dX2_tellNumber_105 ⟨Nat.zero_le _, Nat.zero_le _⟩ ?_
    cases h
    exact x_retR C0 rfl dX2_tellNumber_108
  have h := xf c14 h
  by_cases c17 : a1 = (7 : Int32)
  · have h := xt c17 h
    refine lv_tableIn (tgt := 109) hx hb dX2_tellNumber_1 (by rw [c17]; decide) (by rw [c17]; decide) (off := 108) (by rw [c17]; rfl) (by decide) ?_
    refine lv_aload_n hx hb dX2_tellNumber_109 rfl (lv_at hl 0 rfl) ?_
    refine va_get (D := D) (v := .int t.2.1) (C := RX2) (T := TX2) (N := 6) hx hb hts iw_X2 hown hK hP 0 rfl rfl 1 (by decide) (hts _ mw_7) (fun _ h9 => h9) rfl dX2_tellNumber_110 ?_
    cases h
    exact x_retR C0 rfl dX2_tellNumber_113
  have h := xf c17 h
  by_cases c18 : a1 = (8 : Int32)
  · have h := xt c18 h
    refine lv_tableIn (tgt := 114) hx hb dX2_tellNumber_1 (by rw [c18]; decide) (by rw [c18]; decide) (off := 113) (by rw [c18]; rfl) (by decide) ?_
    refine lv_aload_n hx hb dX2_tellNumber_114 rfl (lv_at hl 0 rfl) ?_
    obtain ⟨x19, h20, h⟩ := bE h
    refine x_RV (As := []) (rest := []) hF (c_X2_personsUnderOath l D cI cZ cT o a t  x19 h20) (cwV 0 hts (gqV mw_209 mw_210 mw_211 mw_15 mw_202) rfl rfl rfl hd_X2_personsUnderOath ⟨Nat.le_of_ble_eq_true rfl, Nat.le_of_ble_eq_true rfl⟩) hK hP q_T_bl (fun _ _ _ => trivial) [0, 1] rfl rfl rfl rfl hl.1 rfl (Nat.le_of_ble_eq_true rfl) dX2_tellNumber_115 ⟨Nat.zero_le _, Nat.zero_le _⟩ ?_
    cases h
    exact x_retR C0 rfl dX2_tellNumber_118
  have h := xf c18 h
  by_cases c21 : a1 = (9 : Int32)
  · have h := xt c21 h
    refine lv_tableIn (tgt := 119) hx hb dX2_tellNumber_1 (by rw [c21]; decide) (by rw [c21]; decide) (off := 118) (by rw [c21]; rfl) (by decide) ?_
    refine lv_aload_n hx hb dX2_tellNumber_119 rfl (lv_at hl 0 rfl) ?_
    refine lv_iconst (v := 0) hx hb dX2_tellNumber_120 (by decide) ?_
    refine lv_iconst (v := 0) hx hb dX2_tellNumber_121 (by decide) ?_
    obtain ⟨x22, h23, h⟩ := bE h
    refine x_RV (As := [.int (0 : Int32), .int (0 : Int32)]) (rest := []) hF (c_X2_read l D cI cZ cT o a t (0 : Int32) (0 : Int32) x22 h23) (cwV 2 hts (gqV mw_65 mw_66 mw_67 mw_15 mw_61) rfl rfl rfl hd_X2_read ⟨Nat.le_of_ble_eq_true rfl, Nat.le_of_ble_eq_true rfl⟩) hK hP q_T_bl (fun _ _ _ => trivial) [0, 1] rfl rfl rfl rfl hl.1 rfl (Nat.le_of_ble_eq_true rfl) dX2_tellNumber_122 ⟨Nat.zero_le _, Nat.zero_le _⟩ ?_
    cases h
    exact x_retR C0 rfl dX2_tellNumber_125
  have h := xf c21 h
  by_cases c24 : a1 = (10 : Int32)
  · have h := xt c24 h
    refine lv_tableIn (tgt := 126) hx hb dX2_tellNumber_1 (by rw [c24]; decide) (by rw [c24]; decide) (off := 125) (by rw [c24]; rfl) (by decide) ?_
    refine lv_aload_n hx hb dX2_tellNumber_126 rfl (lv_at hl 0 rfl) ?_
    refine lv_iconst (v := 0) hx hb dX2_tellNumber_127 (by decide) ?_
    refine lv_iconst (v := 1) hx hb dX2_tellNumber_128 (by decide) ?_
    obtain ⟨x25, h26, h⟩ := bE h
    refine x_RV (As := [.int (0 : Int32), .int (1 : Int32)]) (rest := []) hF (c_X2_read l D cI cZ cT o a t (0 : Int32) (1 : Int32) x25 h26) (cwV 2 hts (gqV mw_65 mw_66 mw_67 mw_15 mw_61) rfl rfl rfl hd_X2_read ⟨Nat.le_of_ble_eq_true rfl, Nat.le_of_ble_eq_true rfl⟩) hK hP q_T_bl (fun _ _ _ => trivial) [0, 1] rfl rfl rfl rfl hl.1 rfl (Nat.le_of_ble_eq_true rfl) dX2_tellNumber_129 ⟨Nat.zero_le _, Nat.zero_le _⟩ ?_
    cases h
    exact x_retR C0 rfl dX2_tellNumber_132
  have h := xf c24 h
  by_cases c27 : a1 = (11 : Int32)
  · have h := xt c27 h
    refine lv_tableIn (tgt := 133) hx hb dX2_tellNumber_1 (by rw [c27]; decide) (by rw [c27]; decide) (off := 132) (by rw [c27]; rfl) (by decide) ?_
    refine lv_aload_n hx hb dX2_tellNumber_133 rfl (lv_at hl 0 rfl) ?_
    refine lv_iconst (v := 0) hx hb dX2_tellNumber_134 (by decide) ?_
    refine lv_iconst (v := 2) hx hb dX2_tellNumber_135 (by decide) ?_
    obtain ⟨x28, h29, h⟩ := bE h
    refine x_RV (As := [.int (0 : Int32), .int (2 : Int32)]) (rest := []) hF (c_X2_read l D cI cZ cT o a t (0 : Int32) (2 : Int32) x28 h29) (cwV 2 hts (gqV mw_65 mw_66 mw_67 mw_15 mw_61) rfl rfl rfl hd_X2_read ⟨Nat.le_of_ble_eq_true rfl, Nat.le_of_ble_eq_true rfl⟩) hK hP q_T_bl (fun _ _ _ => trivial) [0, 1] rfl rfl rfl rfl hl.1 rfl (Nat.le_of_ble_eq_true rfl) dX2_tellNumber_136 ⟨Nat.zero_le _, Nat.zero_le _⟩ ?_
    cases h
    exact x_retR C0 rfl dX2_tellNumber_139
  have h := xf c27 h
  by_cases c30 : a1 = (12 : Int32)
  · have h := xt c30 h
    refine lv_tableIn (tgt := 140) hx hb dX2_tellNumber_1 (by rw [c30]; decide) (by rw [c30]; decide) (off := 139) (by rw [c30]; rfl) (by decide) ?_
    refine lv_aload_n hx hb dX2_tellNumber_140 rfl (lv_at hl 0 rfl) ?_
    refine lv_iconst (v := 0) hx hb dX2_tellNumber_141 (by decide) ?_
    refine lv_iconst (v := 3) hx hb dX2_tellNumber_142 (by decide) ?_
    obtain ⟨x31, h32, h⟩ := bE h
    refine x_RV (As := [.int (0 : Int32), .int (3 : Int32)]) (rest := []) hF (c_X2_read l D cI cZ cT o a t (0 : Int32) (3 : Int32) x31 h32) (cwV 2 hts (gqV mw_65 mw_66 mw_67 mw_15 mw_61) rfl rfl rfl hd_X2_read ⟨Nat.le_of_ble_eq_true rfl, Nat.le_of_ble_eq_true rfl⟩) hK hP q_T_bl (fun _ _ _ => trivial) [0, 1] rfl rfl rfl rfl hl.1 rfl (Nat.le_of_ble_eq_true rfl) dX2_tellNumber_143 ⟨Nat.zero_le _, Nat.zero_le _⟩ ?_
    cases h
    exact x_retR C0 rfl dX2_tellNumber_146
  have h := xf c30 h
  refine lv_tableOut (tgt := 147) hx hb dX2_tellNumber_1 (by have := lv_neT c2 (a := 0) rfl; have := lv_neT c3 (a := 1) rfl; have := lv_neT c4 (a := 2) rfl; have := lv_neT c5 (a := 3) rfl; have := lv_neT c8 (a := 4) rfl; have := lv_neT c11 (a := 5) rfl; have := lv_neT c14 (a := 6) rfl; have := lv_neT c17 (a := 7) rfl; have := lv_neT c18 (a := 8) rfl; have := lv_neT c21 (a := 9) rfl; have := lv_neT c24 (a := 10) rfl; have := lv_neT c27 (a := 11) rfl; have := lv_neT c30 (a := 12) rfl; omega) (by decide) ?_
  refine lv_bipush (v := (-2)) hx hb dX2_tellNumber_147 (by decide) ?_
  cases h
  exact x_retR C0 rfl dX2_tellNumber_149

end G_T3

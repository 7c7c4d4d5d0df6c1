section G_MA
variable {p : Program} {l : Launch} {e : Env} {s : State} {m : MethodId} {args : Array Value} {below : List Frame} {meth : Method} {c : Code} {D : va_G} {cI cZ cT : ClassId}

/-! QuarrelWaysModel.in (III)Z -/
def f_X4_in (a0 : Int32) (a1 : Int32) (a2 : Int32) : Option (Int32) := (if a0 < a1 then some (0 : Int32) else (if a2 < a0 then some (0 : Int32) else some (1 : Int32)))
abbrev rm_X4_in : Room := { frames := 0, cells := 0, slots := 0, locals := 0 }
theorem hd_X4_in : yX4_in.cls = RX4 ∧ yX4_in.cls ≠ "java/lang/invoke/MethodHandle" ∧ yX4_in.cls ≠ "java/lang/invoke/VarHandle" ∧ (parseMethodDescriptor yX4_in.desc).map (fun d => d.parameters.length) = some 3 := by decide +kernel
set_option maxHeartbeats 4000000 in
set_option maxRecDepth 100000 in
theorem c_X4_in (l : Launch) (D : va_G) (cI cZ cT : ClassId) (a0 : Int32) (a1 : Int32) (a2 : Int32) (r : Int32) (h : f_X4_in a0 a1 a2 = some r) : Met l yX4_in (wq yX4_in cX4_in 3 (some .boolean)) rm_X4_in (q_R D (q_tys cI cZ cT) ([]) q_T [.int a0, .int a1, .int a2]) (vp_Si (fun r' => r' = r)) 0 0 (fun _ => False) := by
  refine q_RI (cc := cX4_in) (maxL := 3) (ret := (some .boolean)) (plainFor_of_name (by decide)) (Nat.le_of_ble_eq_true rfl) (fun p e s m below meth c C0 hP hK hE ls hl => ?_)
  have hl : lv_has ls 3 [(0, .int a0), (1, .int a1), (2, .int a2)] := hl
  obtain ⟨hx, hb, hr, hml, hown, hts, hlocks⟩ := id C0
  have hF : CallFix p m c cX4_in 3 s _ BW RX4 := ⟨hx, hb, hml, hown, hts⟩
  rw [f_X4_in] at h
  refine lv_iload_n hx hb dX4_in_0 rfl (lv_at hl 0 rfl) ?_
  refine lv_iload_n hx hb dX4_in_1 rfl (lv_at hl 1 rfl) ?_
  refine lv_icmp_lt (tgt := 14) hx hb dX4_in_2 (by decide) (fun c1 => ?_) (fun c1 => ?_)
  · have h := xt c1 h
    refine lv_iconst (v := 0) hx hb dX4_in_14 (by decide) ?_
    cases h
    exact x_retR C0 rfl dX4_in_15
  · have h := xf c1 h
    refine lv_iload_n hx hb dX4_in_5 rfl (lv_at hl 0 rfl) ?_
    refine lv_iload_n hx hb dX4_in_6 rfl (lv_at hl 2 rfl) ?_
    refine lv_icmp_gt (tgt := 14) hx hb dX4_in_7 (by decide) (fun c2 => ?_) (fun c2 => ?_)
    · have h := xt c2 h
      refine lv_iconst (v := 0) hx hb dX4_in_14 (by decide) ?_
      cases h
      exact x_retR C0 rfl dX4_in_15
    · have h := xf c2 h
      refine lv_iconst (v := 1) hx hb dX4_in_10 (by decide) ?_
      refine lv_goto (tgt := 15) hx hb dX4_in_11 (by decide) ?_
      cases h
      exact x_retR C0 rfl dX4_in_15

/-! QuarrelWaysModel.size (I)I -/
def f_X4_size_L4 (y0 : Int32) : Nat → Int32 → Int32 → Option (Int32)
  | 0, _, _ => none
  | n + 1, y1, y2 => (if (16 : Int32) ≤ y2 then some y1 else f_X4_size_L4 y0 n (y1 + ((y0 >>> (y2 &&& 31)) &&& (1 : Int32))) (y2 + (1 : Int32)))
def f_X4_size (a0 : Int32) : Option (Int32) := ((f_X4_size_L4 a0 2000 (0 : Int32) (0 : Int32)).bind fun v2 => some v2)
abbrev rm_X4_size : Room := { frames := 0, cells := 0, slots := 0, locals := 0 }
theorem hd_X4_size : yX4_size.cls = RX4 ∧ yX4_size.cls ≠ "java/lang/invoke/MethodHandle" ∧ yX4_size.cls ≠ "java/lang/invoke/VarHandle" ∧ (parseMethodDescriptor yX4_size.desc).map (fun d => d.parameters.length) = some 1 := by decide +kernel
set_option maxHeartbeats 4000000 in
set_option maxRecDepth 100000 in
theorem k_X4_size_L4 {Q : State → Prop} {v : Int32} (y0 : Int32) (C0 : q_At p s m args meth c cX4_size 3 (some .int) RX4) (hK : va_K D vwCl (q_tys cI cZ cT) s) (hP : va_P D vwCl ([]) s.heap) (hj : ∀ (ls : Array Slot), lv_has ls 3 [(1, .int v)] → W p l e rm_X4_size s m args below meth c s.heap [] 0 0 Q (F0 m 24 ls [])) : ∀ (n : Nat) (y1 : Int32) (y2 : Int32) (ls : Array Slot), lv_has ls 3 [(0, .int y0), (1, .int y1), (2, .int y2)] → f_X4_size_L4 y0 n y1 y2 = some v → W p l e rm_X4_size s m args below meth c s.heap [] 0 0 (Q) (F0 m 4 ls []) := by
  obtain ⟨hx, hb, hr, hml, hown, hts, hlocks⟩ := id C0
  have hF : CallFix p m c cX4_size 3 s args BW RX4 := ⟨hx, hb, hml, hown, hts⟩
  intro n
  induction n with
  | zero =>
    intro y1 y2 ls hl h
    rw [f_X4_size_L4] at h
    cases h
  | succ n ih =>
    intro y1 y2 ls hl h
    rw [f_X4_size_L4] at h
    refine lv_iload_n hx hb dX4_size_4 rfl (lv_at hl 2 rfl) ?_
    refine lv_bipush (v := 16) hx hb dX4_size_5 (by decide) ?_
    refine lv_icmp_ge (tgt := 24) hx hb dX4_size_7 (by decide) (fun c1 => ?_) (fun c1 => ?_)
    · have h := xt c1 h
      cases h
      exact hj _ (lv_sub hl [1] rfl)
    · have h := xf c1 h
      refine lv_iload_n hx hb dX4_size_10 rfl (lv_at hl 1 rfl) ?_
      refine lv_iload_n hx hb dX4_size_11 rfl (lv_at hl 0 rfl) ?_
      refine lv_iload_n hx hb dX4_size_12 rfl (lv_at hl 2 rfl) ?_
      refine lv_ishr hx hb dX4_size_13 ?_
      refine lv_iconst (v := 1) hx hb dX4_size_14 (by decide) ?_
      refine lv_iand hx hb dX4_size_15 ?_
      refine lv_iadd hx hb dX4_size_16 ?_
      refine lv_istore_n (lv' := [(1, .int (y1 + ((y0 >>> (y2 &&& 31)) &&& (1 : Int32)))), (0, .int y0), (2, .int y2)]) hx hb dX4_size_17 rfl hl (by decide) rfl (fun ls hl => ?_)
      refine lv_iinc (v := (y2 + (1 : Int32))) (lv' := [(2, .int (y2 + (1 : Int32))), (1, .int (y1 + ((y0 >>> (y2 &&& 31)) &&& (1 : Int32)))), (0, .int y0)]) hx hb dX4_size_18 hl (k := 2) rfl rfl (by decide) rfl (fun ls hl => ?_)
      refine lv_goto (tgt := 4) hx hb dX4_size_21 (by decide) ?_
      exact ih (y1 + ((y0 >>> (y2 &&& 31)) &&& (1 : Int32))) (y2 + (1 : Int32)) _ (lv_sub hl [2, 1, 0] rfl) h
set_option maxHeartbeats 4000000 in
set_option maxRecDepth 100000 in
theorem c_X4_size (l : Launch) (D : va_G) (cI cZ cT : ClassId) (a0 : Int32) (r : Int32) (h : f_X4_size a0 = some r) : Met l yX4_size (wq yX4_size cX4_size 3 (some .int)) rm_X4_size (q_R D (q_tys cI cZ cT) ([]) q_T [.int a0]) (vp_Si (fun r' => r' = r)) 0 0 (fun _ => False) := by
  refine q_RI (cc := cX4_size) (maxL := 3) (ret := (some .int)) (plainFor_of_name (by decide)) (Nat.le_of_ble_eq_true rfl) (fun p e s m below meth c C0 hP hK hE ls hl => ?_)
  have hl : lv_has ls 3 [(0, .int a0)] := hl
  obtain ⟨hx, hb, hr, hml, hown, hts, hlocks⟩ := id C0
  have hF : CallFix p m c cX4_size 3 s _ BW RX4 := ⟨hx, hb, hml, hown, hts⟩
  rw [f_X4_size] at h
  refine lv_iconst (v := 0) hx hb dX4_size_0 (by decide) ?_
  refine lv_istore_n (lv' := [(1, .int (0 : Int32)), (0, .int a0)]) hx hb dX4_size_1 rfl hl (by decide) rfl (fun ls hl => ?_)
  refine lv_iconst (v := 0) hx hb dX4_size_2 (by decide) ?_
  refine lv_istore_n (lv' := [(2, .int (0 : Int32)), (1, .int (0 : Int32)), (0, .int a0)]) hx hb dX4_size_3 rfl hl (by decide) rfl (fun ls hl => ?_)
  obtain ⟨v2, h3, h⟩ := bE h
  refine k_X4_size_L4 (v := v2) a0 C0 hK hP (fun ls hl => ?_) 2000 (0 : Int32) (0 : Int32) _ (lv_sub hl [2, 1, 0] rfl) h3
  refine lv_iload_n hx hb dX4_size_24 rfl (lv_at hl 0 rfl) ?_
  cases h
  exact x_retR C0 rfl dX4_size_25

/-! QuarrelWaysModel.code (JI)I -/
def f_X4_code (a0 : Int64) (a2 : Int32) : Option (Int32) := some (((a0.toUInt64 >>> (((8 : Int32) * a2).toInt64.toUInt64 &&& Int64.toUInt64 63)).toInt64 &&& (255 : Int64)).toInt32)
abbrev rm_X4_code : Room := { frames := 0, cells := 0, slots := 0, locals := 0 }
theorem hd_X4_code : yX4_code.cls = RX4 ∧ yX4_code.cls ≠ "java/lang/invoke/MethodHandle" ∧ yX4_code.cls ≠ "java/lang/invoke/VarHandle" ∧ (parseMethodDescriptor yX4_code.desc).map (fun d => d.parameters.length) = some 2 := by decide +kernel
set_option maxHeartbeats 4000000 in
set_option maxRecDepth 100000 in
theorem c_X4_code (l : Launch) (D : va_G) (cI cZ cT : ClassId) (a0 : Int64) (a2 : Int32) (r : Int32) (h : f_X4_code a0 a2 = some r) : Met l yX4_code (wq yX4_code cX4_code 3 (some .int)) rm_X4_code (q_R D (q_tys cI cZ cT) ([]) q_T [.long a0, .int a2]) (vp_Si (fun r' => r' = r)) 0 0 (fun _ => False) := by
  refine q_RI (cc := cX4_code) (maxL := 3) (ret := (some .int)) (plainFor_of_name (by decide)) (Nat.le_of_ble_eq_true rfl) (fun p e s m below meth c C0 hP hK hE ls hl => ?_)
  have hl : lv_has ls 3 [(0, .long a0), (2, .int a2)] := hl
  obtain ⟨hx, hb, hr, hml, hown, hts, hlocks⟩ := id C0
  have hF : CallFix p m c cX4_code 3 s _ BW RX4 := ⟨hx, hb, hml, hown, hts⟩
  rw [f_X4_code] at h
  refine lv_lload_n hx hb dX4_code_0 rfl (lv_at hl 0 rfl) ?_
  refine lv_bipush (v := 8) hx hb dX4_code_1 (by decide) ?_
  refine lv_iload_n hx hb dX4_code_3 rfl (lv_at hl 1 rfl) ?_
  refine lv_imul hx hb dX4_code_4 ?_
  refine lv_lushr hx hb dX4_code_5 rfl ?_
  refine lv_ldc2 (v := 255) hx hb hown (hts _ mw_588) dX4_code_6 ?_
  refine lv_land hx hb dX4_code_9 ?_
  refine lv_l2i hx hb dX4_code_10 rfl ?_
  cases h
  exact x_retR C0 rfl dX4_code_11

/-! QuarrelWaysModel.isPerson (I)Z -/
def f_X4_isPerson (u : Nat → Int32) (a1 : Int32) : Option (Int32) := ((rd u 181 (5 : Int32)).bind fun x1 => ((f_X4_in a1 (0 : Int32) (x1 - (1 : Int32))).bind fun x3 => ((gb x3).bind fun x5 => some x5)))
abbrev rm_X4_isPerson : Room := { frames := 1, cells := 0, slots := 0, locals := 22 }
theorem hd_X4_isPerson : yX4_isPerson.cls = RX4 ∧ yX4_isPerson.cls ≠ "java/lang/invoke/MethodHandle" ∧ yX4_isPerson.cls ≠ "java/lang/invoke/VarHandle" ∧ (parseMethodDescriptor yX4_isPerson.desc).map (fun d => d.parameters.length) = some 1 := by decide +kernel
set_option maxHeartbeats 4000000 in
set_option maxRecDepth 100000 in
theorem c_X4_isPerson (l : Launch) (D : va_G) (cI cZ cT : ClassId) (o : Nat) (fs : List Value) (a : Nat) (hfs : fs[0]? = some (.ref a)) (u : Nat → Int32) (a1 : Int32) (r : Int32) (h : f_X4_isPerson u a1 = some r) : Met l yX4_isPerson (wq yX4_isPerson cX4_isPerson 2 (some .boolean)) rm_X4_isPerson (q_R D (q_tys cI cZ cT) (wS cI o fs a u) q_T [.ref o, .int a1]) (vp_Si (fun r' => r' = r)) 0 0 (fun _ => False) := by
  refine q_RI (cc := cX4_isPerson) (maxL := 2) (ret := (some .boolean)) (plainFor_of_name (by decide)) (Nat.le_of_ble_eq_true rfl) (fun p e s m below meth c C0 hP hK hE ls hl => ?_)
  have hl : lv_has ls 2 [(0, .ref o), (1, .int a1)] := hl
  obtain ⟨hx, hb, hr, hml, hown, hts, hlocks⟩ := id C0
  have hF : CallFix p m c cX4_isPerson 2 s _ BW RX4 := ⟨hx, hb, hml, hown, hts⟩
  rw [f_X4_isPerson] at h
  refine lv_iload_n hx hb dX4_isPerson_0 rfl (lv_at hl 1 rfl) ?_
  refine lv_iconst (v := 0) hx hb dX4_isPerson_1 (by decide) ?_
  refine lv_aload_n hx hb dX4_isPerson_2 rfl (lv_at hl 0 rfl) ?_
  refine va_get (D := D) (v := .ref a) (C := RX4) (T := TX4) (N := 10) hx hb hts iw_X4 hown hK hP 0 rfl rfl 0 (by decide) (hts _ mw_414) (fun _ h9 => h9) hfs dX4_isPerson_3 ?_
  refine lv_iconst (v := 5) hx hb dX4_isPerson_6 (by decide) ?_
  obtain ⟨x1, h2, h⟩ := bE h
  refine x_iald (cA := cI) hx hb hK hP 1 0 rfl rfl h2 dX4_isPerson_7 ?_
  refine lv_iconst (v := 1) hx hb dX4_isPerson_8 (by decide) ?_
  refine lv_isub hx hb dX4_isPerson_9 ?_
  obtain ⟨x3, h4, h⟩ := bE h
  refine x_RS (As := [.int a1, .int (0 : Int32), .int (x1 - (1 : Int32))]) (rest := []) hF (c_X4_in l D cI cZ cT  a1 (0 : Int32) (x1 - (1 : Int32)) x3 h4) (va_cwS 3 hts (gqS mw_426 mw_427 mw_428 mw_421) rfl rfl rfl hd_X4_in.2 ⟨Nat.le_of_ble_eq_true rfl, Nat.le_of_ble_eq_true rfl⟩) hK hP q_T_bl (fun _ _ _ => trivial) [] rfl rfl hl.1 rfl (Nat.le_of_ble_eq_true rfl) dX4_isPerson_10 ⟨Nat.zero_le _, Nat.zero_le _⟩ ?_
  obtain ⟨x5, h6, h⟩ := bE h
  obtain ⟨hz, ex5⟩ := gb_e h6
  subst ex5
  cases h
  exact x_retR C0 (x_nz hz) dX4_isPerson_13

/-! QuarrelWaysModel.isQuarrel (I)Z -/
def f_X4_isQuarrel (u : Nat → Int32) (a1 : Int32) : Option (Int32) := ((rd u 181 (47 : Int32)).bind fun x1 => ((f_X4_in a1 (0 : Int32) (x1 - (1 : Int32))).bind fun x3 => ((gb x3).bind fun x5 => some x5)))
abbrev rm_X4_isQuarrel : Room := { frames := 1, cells := 0, slots := 0, locals := 22 }
theorem hd_X4_isQuarrel : yX4_isQuarrel.cls = RX4 ∧ yX4_isQuarrel.cls ≠ "java/lang/invoke/MethodHandle" ∧ yX4_isQuarrel.cls ≠ "java/lang/invoke/VarHandle" ∧ (parseMethodDescriptor yX4_isQuarrel.desc).map (fun d => d.parameters.length) = some 1 := by decide +kernel
set_option maxHeartbeats 4000000 in
set_option maxRecDepth 100000 in
theorem c_X4_isQuarrel (l : Launch) (D : va_G) (cI cZ cT : ClassId) (o : Nat) (fs : List Value) (a : Nat) (hfs : fs[0]? = some (.ref a)) (u : Nat → Int32) (a1 : Int32) (r : Int32) (h : f_X4_isQuarrel u a1 = some r) : Met l yX4_isQuarrel (wq yX4_isQuarrel cX4_isQuarrel 2 (some .boolean)) rm_X4_isQuarrel (q_R D (q_tys cI cZ cT) (wS cI o fs a u) q_T [.ref o, .int a1]) (vp_Si (fun r' => r' = r)) 0 0 (fun _ => False) := by
  refine q_RI (cc := cX4_isQuarrel) (maxL := 2) (ret := (some .boolean)) (plainFor_of_name (by decide)) (Nat.le_of_ble_eq_true rfl) (fun p e s m below meth c C0 hP hK hE ls hl => ?_)
  have hl : lv_has ls 2 [(0, .ref o), (1, .int a1)] := hl
  obtain ⟨hx, hb, hr, hml, hown, hts, hlocks⟩ := id C0
  have hF : CallFix p m c cX4_isQuarrel 2 s _ BW RX4 := ⟨hx, hb, hml, hown, hts⟩
  rw [f_X4_isQuarrel] at h
  refine lv_iload_n hx hb dX4_isQuarrel_0 rfl (lv_at hl 1 rfl) ?_
  refine lv_iconst (v := 0) hx hb dX4_isQuarrel_1 (by decide) ?_
  refine lv_aload_n hx hb dX4_isQuarrel_2 rfl (lv_at hl 0 rfl) ?_
  refine va_get (D := D) (v := .ref a) (C := RX4) (T := TX4) (N := 10) hx hb hts iw_X4 hown hK hP 0 rfl rfl 0 (by decide) (hts _ mw_414) (fun _ h9 => h9) hfs dX4_isQuarrel_3 ?_
  refine lv_bipush (v := 47) hx hb dX4_isQuarrel_6 (by decide) ?_
  obtain ⟨x1, h2, h⟩ := bE h
  refine x_iald (cA := cI) hx hb hK hP 1 0 rfl rfl h2 dX4_isQuarrel_8 ?_
  refine lv_iconst (v := 1) hx hb dX4_isQuarrel_9 (by decide) ?_
  refine lv_isub hx hb dX4_isQuarrel_10 ?_
  obtain ⟨x3, h4, h⟩ := bE h
  refine x_RS (As := [.int a1, .int (0 : Int32), .int (x1 - (1 : Int32))]) (rest := []) hF (c_X4_in l D cI cZ cT  a1 (0 : Int32) (x1 - (1 : Int32)) x3 h4) (va_cwS 3 hts (gqS mw_426 mw_427 mw_428 mw_421) rfl rfl rfl hd_X4_in.2 ⟨Nat.le_of_ble_eq_true rfl, Nat.le_of_ble_eq_true rfl⟩) hK hP q_T_bl (fun _ _ _ => trivial) [] rfl rfl hl.1 rfl (Nat.le_of_ble_eq_true rfl) dX4_isQuarrel_11 ⟨Nat.zero_le _, Nat.zero_le _⟩ ?_
  obtain ⟨x5, h6, h⟩ := bE h
  obtain ⟨hz, ex5⟩ := gb_e h6
  subst ex5
  cases h
  exact x_retR C0 (x_nz hz) dX4_isQuarrel_14

/-! QuarrelWaysModel.person0 (II)I -/
def f_X4_person0 (u : Nat → Int32) (a1 : Int32) (a2 : Int32) : Option (Int32) := ((rd u 181 (((6 : Int32) + ((4 : Int32) * a1)) + a2)).bind fun x1 => some x1)
abbrev rm_X4_person0 : Room := { frames := 0, cells := 0, slots := 0, locals := 0 }
theorem hd_X4_person0 : yX4_person0.cls = RX4 ∧ yX4_person0.cls ≠ "java/lang/invoke/MethodHandle" ∧ yX4_person0.cls ≠ "java/lang/invoke/VarHandle" ∧ (parseMethodDescriptor yX4_person0.desc).map (fun d => d.parameters.length) = some 2 := by decide +kernel
set_option maxHeartbeats 4000000 in
set_option maxRecDepth 100000 in
theorem c_X4_person0 (l : Launch) (D : va_G) (cI cZ cT : ClassId) (o : Nat) (fs : List Value) (a : Nat) (hfs : fs[0]? = some (.ref a)) (u : Nat → Int32) (a1 : Int32) (a2 : Int32) (r : Int32) (h : f_X4_person0 u a1 a2 = some r) : Met l yX4_person0 (wq yX4_person0 cX4_person0 3 (some .int)) rm_X4_person0 (q_R D (q_tys cI cZ cT) (wS cI o fs a u) q_T [.ref o, .int a1, .int a2]) (vp_Si (fun r' => r' = r)) 0 0 (fun _ => False) := by
  refine q_RI (cc := cX4_person0) (maxL := 3) (ret := (some .int)) (plainFor_of_name (by decide)) (Nat.le_of_ble_eq_true rfl) (fun p e s m below meth c C0 hP hK hE ls hl => ?_)
  have hl : lv_has ls 3 [(0, .ref o), (1, .int a1), (2, .int a2)] := hl
  obtain ⟨hx, hb, hr, hml, hown, hts, hlocks⟩ := id C0
  have hF : CallFix p m c cX4_person0 3 s _ BW RX4 := ⟨hx, hb, hml, hown, hts⟩
  rw [f_X4_person0] at h
  refine lv_aload_n hx hb dX4_person0_0 rfl (lv_at hl 0 rfl) ?_
  refine va_get (D := D) (v := .ref a) (C := RX4) (T := TX4) (N := 10) hx hb hts iw_X4 hown hK hP 0 rfl rfl 0 (by decide) (hts _ mw_414) (fun _ h9 => h9) hfs dX4_person0_1 ?_
  refine lv_bipush (v := 6) hx hb dX4_person0_4 (by decide) ?_
  refine lv_iconst (v := 4) hx hb dX4_person0_6 (by decide) ?_
  refine lv_iload_n hx hb dX4_person0_7 rfl (lv_at hl 1 rfl) ?_
  refine lv_imul hx hb dX4_person0_8 ?_
  refine lv_iadd hx hb dX4_person0_9 ?_
  refine lv_iload_n hx hb dX4_person0_10 rfl (lv_at hl 2 rfl) ?_
  refine lv_iadd hx hb dX4_person0_11 ?_
  obtain ⟨x1, h2, h⟩ := bE h
  refine x_iald (cA := cI) hx hb hK hP 1 0 rfl rfl h2 dX4_person0_12 ?_
  cases h
  exact x_retR C0 rfl dX4_person0_13

/-! QuarrelWaysModel.quarrel0 (II)I -/
def f_X4_quarrel0 (u : Nat → Int32) (a1 : Int32) (a2 : Int32) : Option (Int32) := ((rd u 181 (((48 : Int32) + ((8 : Int32) * a1)) + a2)).bind fun x1 => some x1)
abbrev rm_X4_quarrel0 : Room := { frames := 0, cells := 0, slots := 0, locals := 0 }
theorem hd_X4_quarrel0 : yX4_quarrel0.cls = RX4 ∧ yX4_quarrel0.cls ≠ "java/lang/invoke/MethodHandle" ∧ yX4_quarrel0.cls ≠ "java/lang/invoke/VarHandle" ∧ (parseMethodDescriptor yX4_quarrel0.desc).map (fun d => d.parameters.length) = some 2 := by decide +kernel
set_option maxHeartbeats 4000000 in
set_option maxRecDepth 100000 in
theorem c_X4_quarrel0 (l : Launch) (D : va_G) (cI cZ cT : ClassId) (o : Nat) (fs : List Value) (a : Nat) (hfs : fs[0]? = some (.ref a)) (u : Nat → Int32) (a1 : Int32) (a2 : Int32) (r : Int32) (h : f_X4_quarrel0 u a1 a2 = some r) : Met l yX4_quarrel0 (wq yX4_quarrel0 cX4_quarrel0 3 (some .int)) rm_X4_quarrel0 (q_R D (q_tys cI cZ cT) (wS cI o fs a u) q_T [.ref o, .int a1, .int a2]) (vp_Si (fun r' => r' = r)) 0 0 (fun _ => False) := by
  refine q_RI (cc := cX4_quarrel0) (maxL := 3) (ret := (some .int)) (plainFor_of_name (by decide)) (Nat.le_of_ble_eq_true rfl) (fun p e s m below meth c C0 hP hK hE ls hl => ?_)
  have hl : lv_has ls 3 [(0, .ref o), (1, .int a1), (2, .int a2)] := hl
  obtain ⟨hx, hb, hr, hml, hown, hts, hlocks⟩ := id C0
  have hF : CallFix p m c cX4_quarrel0 3 s _ BW RX4 := ⟨hx, hb, hml, hown, hts⟩
  rw [f_X4_quarrel0] at h
  refine lv_aload_n hx hb dX4_quarrel0_0 rfl (lv_at hl 0 rfl) ?_
  refine va_get (D := D) (v := .ref a) (C := RX4) (T := TX4) (N := 10) hx hb hts iw_X4 hown hK hP 0 rfl rfl 0 (by decide) (hts _ mw_414) (fun _ h9 => h9) hfs dX4_quarrel0_1 ?_
  refine lv_bipush (v := 48) hx hb dX4_quarrel0_4 (by decide) ?_
  refine lv_bipush (v := 8) hx hb dX4_quarrel0_6 (by decide) ?_
  refine lv_iload_n hx hb dX4_quarrel0_8 rfl (lv_at hl 1 rfl) ?_
  refine lv_imul hx hb dX4_quarrel0_9 ?_
  refine lv_iadd hx hb dX4_quarrel0_10 ?_
  refine lv_iload_n hx hb dX4_quarrel0_11 rfl (lv_at hl 2 rfl) ?_
  refine lv_iadd hx hb dX4_quarrel0_12 ?_
  obtain ⟨x1, h2, h⟩ := bE h
  refine x_iald (cA := cI) hx hb hK hP 1 0 rfl rfl h2 dX4_quarrel0_13 ?_
  cases h
  exact x_retR C0 rfl dX4_quarrel0_14

/-! QuarrelWaysModel.isUnderOath (II)Z -/
def f_X4_isUnderOath (u : Nat → Int32) (a1 : Int32) (a2 : Int32) : Option (Int32) := ((f_X4_person0 u a1 (3 : Int32)).bind fun x1 => ((rd u 181 (4 : Int32)).bind fun x3 => (if x1 ≤ (x3 + a2) then some (0 : Int32) else some (1 : Int32))))
abbrev rm_X4_isUnderOath : Room := { frames := 1, cells := 0, slots := 0, locals := 22 }
theorem hd_X4_isUnderOath : yX4_isUnderOath.cls = RX4 ∧ yX4_isUnderOath.cls ≠ "java/lang/invoke/MethodHandle" ∧ yX4_isUnderOath.cls ≠ "java/lang/invoke/VarHandle" ∧ (parseMethodDescriptor yX4_isUnderOath.desc).map (fun d => d.parameters.length) = some 2 := by decide +kernel
set_option maxHeartbeats 4000000 in
set_option maxRecDepth 100000 in
theorem c_X4_isUnderOath (l : Launch) (D : va_G) (cI cZ cT : ClassId) (o : Nat) (fs : List Value) (a : Nat) (hfs : fs[0]? = some (.ref a)) (u : Nat → Int32) (a1 : Int32) (a2 : Int32) (r : Int32) (h : f_X4_isUnderOath u a1 a2 = some r) : Met l yX4_isUnderOath (wq yX4_isUnderOath cX4_isUnderOath 3 (some .boolean)) rm_X4_isUnderOath (q_R D (q_tys cI cZ cT) (wS cI o fs a u) q_T [.ref o, .int a1, .int a2]) (vp_Si (fun r' => r' = r)) 0 0 (fun _ => False) := by
  refine q_RI (cc := cX4_isUnderOath) (maxL := 3) (ret := (some .boolean)) (plainFor_of_name (by decide)) (Nat.le_of_ble_eq_true rfl) (fun p e s m below meth c C0 hP hK hE ls hl => ?_)
  have hl : lv_has ls 3 [(0, .ref o), (1, .int a1), (2, .int a2)] := hl
  obtain ⟨hx, hb, hr, hml, hown, hts, hlocks⟩ := id C0
  have hF : CallFix p m c cX4_isUnderOath 3 s _ BW RX4 := ⟨hx, hb, hml, hown, hts⟩
  rw [f_X4_isUnderOath] at h
  refine lv_aload_n hx hb dX4_isUnderOath_0 rfl (lv_at hl 0 rfl) ?_
  refine lv_iload_n hx hb dX4_isUnderOath_1 rfl (lv_at hl 1 rfl) ?_
  refine lv_iconst (v := 3) hx hb dX4_isUnderOath_2 (by decide) ?_
  obtain ⟨x1, h2, h⟩ := bE h
  refine x_RV (As := [.int a1, .int (3 : Int32)]) (rest := []) hF (c_X4_person0 l D cI cZ cT o fs a hfs u a1 (3 : Int32) x1 h2) (cwV 2 hts (gqV mw_433 mw_434 mw_435 mw_428 mw_430) rfl rfl rfl hd_X4_person0 ⟨Nat.le_of_ble_eq_true rfl, Nat.le_of_ble_eq_true rfl⟩) hK hP q_T_bl (fun _ _ _ => trivial) [0, 1] rfl rfl rfl rfl hl.1 rfl (Nat.le_of_ble_eq_true rfl) dX4_isUnderOath_3 ⟨Nat.zero_le _, Nat.zero_le _⟩ ?_
  refine lv_aload_n hx hb dX4_isUnderOath_6 rfl (lv_at hl 0 rfl) ?_
  refine va_get (D := D) (v := .ref a) (C := RX4) (T := TX4) (N := 10) hx hb hts iw_X4 hown hK hP 0 rfl rfl 0 (by decide) (hts _ mw_414) (fun _ h9 => h9) hfs dX4_isUnderOath_7 ?_
  refine lv_iconst (v := 4) hx hb dX4_isUnderOath_10 (by decide) ?_
  obtain ⟨x3, h4, h⟩ := bE h
  refine x_iald (cA := cI) hx hb hK hP 1 0 rfl rfl h4 dX4_isUnderOath_11 ?_
  refine lv_iload_n hx hb dX4_isUnderOath_12 rfl (lv_at hl 2 rfl) ?_
  refine lv_iadd hx hb dX4_isUnderOath_13 ?_
  refine lv_icmp_le (tgt := 21) hx hb dX4_isUnderOath_14 (by decide) (fun c5 => ?_) (fun c5 => ?_)
  · have h := xt c5 h
    refine lv_iconst (v := 0) hx hb dX4_isUnderOath_21 (by decide) ?_
    cases h
    exact x_retR C0 rfl dX4_isUnderOath_22
  · have h := xf c5 h
    refine lv_iconst (v := 1) hx hb dX4_isUnderOath_17 (by decide) ?_
    refine lv_goto (tgt := 22) hx hb dX4_isUnderOath_18 (by decide) ?_
    cases h
    exact x_retR C0 rfl dX4_isUnderOath_22

/-! QuarrelWaysModel.areOfThese (III)Z -/
def f_X4_areOfThese (u : Nat → Int32) (a1 : Int32) (a2 : Int32) (a3 : Int32) : Option (Int32) := ((f_X4_quarrel0 u a1 (0 : Int32)).bind fun x1 => ((f_X4_quarrel0 u a1 (1 : Int32)).bind fun x3 => (if x1 = a2 then (if x3 = a3 then some (1 : Int32) else (if x1 = a3 then (if x3 = a2 then some (1 : Int32) else some (0 : Int32)) else some (0 : Int32))) else (if x1 = a3 then (if x3 = a2 then some (1 : Int32) else some (0 : Int32)) else some (0 : Int32)))))
abbrev rm_X4_areOfThese : Room := { frames := 1, cells := 0, slots := 0, locals := 22 }
theorem hd_X4_areOfThese : yX4_areOfThese.cls = RX4 ∧ yX4_areOfThese.cls ≠ "java/lang/invoke/MethodHandle" ∧ yX4_areOfThese.cls ≠ "java/lang/invoke/VarHandle" ∧ (parseMethodDescriptor yX4_areOfThese.desc).map (fun d => d.parameters.length) = some 3 := by decide +kernel
set_option maxHeartbeats 4000000 in
set_option maxRecDepth 100000 in
theorem c_X4_areOfThese (l : Launch) (D : va_G) (cI cZ cT : ClassId) (o : Nat) (fs : List Value) (a : Nat) (hfs : fs[0]? = some (.ref a)) (u : Nat → Int32) (a1 : Int32) (a2 : Int32) (a3 : Int32) (r : Int32) (h : f_X4_areOfThese u a1 a2 a3 = some r) : Met l yX4_areOfThese (wq yX4_areOfThese cX4_areOfThese 6 (some .boolean)) rm_X4_areOfThese (q_R D (q_tys cI cZ cT) (wS cI o fs a u) q_T [.ref o, .int a1, .int a2, .int a3]) (vp_Si (fun r' => r' = r)) 0 0 (fun _ => False) := by
  refine q_RI (cc := cX4_areOfThese) (maxL := 6) (ret := (some .boolean)) (plainFor_of_name (by decide)) (Nat.le_of_ble_eq_true rfl) (fun p e s m below meth c C0 hP hK hE ls hl => ?_)
  have hl : lv_has ls 6 [(0, .ref o), (1, .int a1), (2, .int a2), (3, .int a3)] := hl
  obtain ⟨hx, hb, hr, hml, hown, hts, hlocks⟩ := id C0
  have hF : CallFix p m c cX4_areOfThese 6 s _ BW RX4 := ⟨hx, hb, hml, hown, hts⟩
  rw [f_X4_areOfThese] at h
  refine lv_aload_n hx hb dX4_areOfThese_0 rfl (lv_at hl 0 rfl) ?_
  refine lv_iload_n hx hb dX4_areOfThese_1 rfl (lv_at hl 1 rfl) ?_
  refine lv_iconst (v := 0) hx hb dX4_areOfThese_2 (by decide) ?_
  obtain ⟨x1, h2, h⟩ := bE h
  refine x_RV (As := [.int a1, .int (0 : Int32)]) (rest := []) hF (c_X4_quarrel0 l D cI cZ cT o fs a hfs u a1 (0 : Int32) x1 h2) (cwV 2 hts (gqV mw_437 mw_438 mw_439 mw_428 mw_431) rfl rfl rfl hd_X4_quarrel0 ⟨Nat.le_of_ble_eq_true rfl, Nat.le_of_ble_eq_true rfl⟩) hK hP q_T_bl (fun _ _ _ => trivial) [0, 1] rfl rfl rfl rfl hl.1 rfl (Nat.le_of_ble_eq_true rfl) dX4_areOfThese_3 ⟨Nat.zero_le _, Nat.zero_le _⟩ ?_
  refine lv_istore (lv' := [(4, .int x1), (0, .ref o), (1, .int a1), (2, .int a2), (3, .int a3)]) hx hb dX4_areOfThese_6 hl (by decide) rfl (fun ls hl => ?_)
  refine lv_aload_n hx hb dX4_areOfThese_8 rfl (lv_at hl 1 rfl) ?_
  refine lv_iload_n hx hb dX4_areOfThese_9 rfl (lv_at hl 2 rfl) ?_
  refine lv_iconst (v := 1) hx hb dX4_areOfThese_10 (by decide) ?_
  obtain ⟨x3, h4, h⟩ := bE h
  refine x_RV (As := [.int a1, .int (1 : Int32)]) (rest := []) hF (c_X4_quarrel0 l D cI cZ cT o fs a hfs u a1 (1 : Int32) x3 h4) (cwV 2 hts (gqV mw_437 mw_438 mw_439 mw_428 mw_431) rfl rfl rfl hd_X4_quarrel0 ⟨Nat.le_of_ble_eq_true rfl, Nat.le_of_ble_eq_true rfl⟩) hK hP q_T_bl (fun _ _ _ => trivial) [0, 1] rfl rfl rfl rfl hl.1 rfl (Nat.le_of_ble_eq_true rfl) dX4_areOfThese_11 ⟨Nat.zero_le _, Nat.zero_le _⟩ ?_
  refine lv_istore (lv' := [(5, .int x3), (4, .int x1), (0, .ref o), (1, .int a1), (2, .int a2), (3, .int a3)]) hx hb dX4_areOfThese_14 hl (by decide) rfl (fun ls hl => ?_)
  refine lv_iload hx hb dX4_areOfThese_16 (lv_at hl 1 rfl) ?_
  refine lv_iload_n hx hb dX4_areOfThese_18 rfl (lv_at hl 4 rfl) ?_
  refine lv_icmp_ne (tgt := 28) hx hb dX4_areOfThese_19 (by decide) (fun c5 => ?_) (fun c5 => ?_)
  · have h := xf c5 h
    refine lv_iload hx hb dX4_areOfThese_28 (lv_at hl 1 rfl) ?_
    refine lv_iload_n hx hb dX4_areOfThese_30 rfl (lv_at hl 5 rfl) ?_
    refine lv_icmp_ne (tgt := 44) hx hb dX4_areOfThese_31 (by decide) (fun c6 => ?_) (fun c6 => ?_)
    · have h := xf c6 h
      refine lv_iconst (v := 0) hx hb dX4_areOfThese_44 (by decide) ?_
      cases h
      exact x_retR C0 rfl dX4_areOfThese_45
    · have h := xt c6 h
      refine lv_iload hx hb dX4_areOfThese_34 (lv_at hl 0 rfl) ?_
      refine lv_iload_n hx hb dX4_areOfThese_36 rfl (lv_at hl 4 rfl) ?_
      refine lv_icmp_ne (tgt := 44) hx hb dX4_areOfThese_37 (by decide) (fun c7 => ?_) (fun c7 => ?_)
      · have h := xf c7 h
        refine lv_iconst (v := 0) hx hb dX4_areOfThese_44 (by decide) ?_
        cases h
        exact x_retR C0 rfl dX4_areOfThese_45
      · have h := xt c7 h
        refine lv_iconst (v := 1) hx hb dX4_areOfThese_40 (by decide) ?_
        refine lv_goto (tgt := 45) hx hb dX4_areOfThese_41 (by decide) ?_
        cases h
        exact x_retR C0 rfl dX4_areOfThese_45
  · have h := xt c5 h
    refine lv_iload hx hb dX4_areOfThese_22 (lv_at hl 0 rfl) ?_
    refine lv_iload_n hx hb dX4_areOfThese_24 rfl (lv_at hl 5 rfl) ?_
    refine lv_icmp_eq (tgt := 40) hx hb dX4_areOfThese_25 (by decide) (fun c8 => ?_) (fun c8 => ?_)
    · have h := xt c8 h
      refine lv_iconst (v := 1) hx hb dX4_areOfThese_40 (by decide) ?_
      refine lv_goto (tgt := 45) hx hb dX4_areOfThese_41 (by decide) ?_
      cases h
      exact x_retR C0 rfl dX4_areOfThese_45
    · have h := xf c8 h
      refine lv_iload hx hb dX4_areOfThese_28 (lv_at hl 1 rfl) ?_
      refine lv_iload_n hx hb dX4_areOfThese_30 rfl (lv_at hl 5 rfl) ?_
      refine lv_icmp_ne (tgt := 44) hx hb dX4_areOfThese_31 (by decide) (fun c9 => ?_) (fun c9 => ?_)
      · have h := xf c9 h
        refine lv_iconst (v := 0) hx hb dX4_areOfThese_44 (by decide) ?_
        cases h
        exact x_retR C0 rfl dX4_areOfThese_45
      · have h := xt c9 h
        refine lv_iload hx hb dX4_areOfThese_34 (lv_at hl 0 rfl) ?_
        refine lv_iload_n hx hb dX4_areOfThese_36 rfl (lv_at hl 4 rfl) ?_
        refine lv_icmp_ne (tgt := 44) hx hb dX4_areOfThese_37 (by decide) (fun c10 => ?_) (fun c10 => ?_)
        · have h := xf c10 h
          refine lv_iconst (v := 0) hx hb dX4_areOfThese_44 (by decide) ?_
          cases h
          exact x_retR C0 rfl dX4_areOfThese_45
        · have h := xt c10 h
          refine lv_iconst (v := 1) hx hb dX4_areOfThese_40 (by decide) ?_
          refine lv_goto (tgt := 45) hx hb dX4_areOfThese_41 (by decide) ?_
          cases h
          exact x_retR C0 rfl dX4_areOfThese_45

/-! QuarrelWaysModel.hasPeace (IIII)Z -/
def f_X4_hasPeace_L6 (z0 : Nat → Int32) (y1 : Int32) (y2 : Int32) (y3 : Int32) (y4 : Int32) : Nat → Int32 → Int32 → Option (Int32)
  | 0, _, _ => none
  | n + 1, y5, y6 => ((rd z0 181 (47 : Int32)).bind fun x1 => (if x1 ≤ y6 then some y5 else (((if y6 = y3 then some (0 : Int32) else ((f_X4_areOfThese z0 y6 y1 y2).bind fun x15 => (if x15 = 0 then some (0 : Int32) else ((f_X4_quarrel0 z0 y6 (4 : Int32)).bind fun x18 => (if x18 = (1 : Int32) then some (1 : Int32) else some (0 : Int32)))))) : Option (Int32)).bind fun v4 => (if y5 = 0 then (if v4 = 0 then f_X4_hasPeace_L6 z0 y1 y2 y3 y4 n (0 : Int32) (y6 + (1 : Int32)) else ((rd z0 181 (4 : Int32)).bind fun x7 => ((f_X4_quarrel0 z0 y6 (7 : Int32)).bind fun x9 => ((rd z0 181 (3 : Int32)).bind fun x11 => (if x11 < ((x7 + y4) - x9) then f_X4_hasPeace_L6 z0 y1 y2 y3 y4 n (0 : Int32) (y6 + (1 : Int32)) else f_X4_hasPeace_L6 z0 y1 y2 y3 y4 n (1 : Int32) (y6 + (1 : Int32))))))) else f_X4_hasPeace_L6 z0 y1 y2 y3 y4 n (1 : Int32) (y6 + (1 : Int32))))))
def f_X4_hasPeace (u : Nat → Int32) (a1 : Int32) (a2 : Int32) (a3 : Int32) (a4 : Int32) : Option (Int32) := ((f_X4_hasPeace_L6 u a1 a2 a3 a4 2000 (0 : Int32) (0 : Int32)).bind fun v21 => ((gb v21).bind fun x23 => some x23))
abbrev rm_X4_hasPeace : Room := { frames := 2, cells := 0, slots := 0, locals := 47 }
theorem hd_X4_hasPeace : yX4_hasPeace.cls = RX4 ∧ yX4_hasPeace.cls ≠ "java/lang/invoke/MethodHandle" ∧ yX4_hasPeace.cls ≠ "java/lang/invoke/VarHandle" ∧ (parseMethodDescriptor yX4_hasPeace.desc).map (fun d => d.parameters.length) = some 4 := by decide +kernel
set_option maxHeartbeats 4000000 in
set_option maxRecDepth 100000 in
theorem k_X4_hasPeace_L6 {Q : State → Prop} {v : Int32} (o : Nat) (fs : List Value) (a : Nat) (hfs : fs[0]? = some (.ref a)) (z0 : Nat → Int32) (y1 : Int32) (y2 : Int32) (y3 : Int32) (y4 : Int32) (C0 : q_At p s m args meth c cX4_hasPeace 8 (some .boolean) RX4) (hK : va_K D vwCl (q_tys cI cZ cT) s) (hP : va_P D vwCl (wS cI o fs a z0) s.heap) (hj : ∀ (ls : Array Slot), lv_has ls 8 [(5, .int v)] → W p l e rm_X4_hasPeace s m args below meth c s.heap [] 0 0 Q (F0 m 103 ls [])) : ∀ (n : Nat) (y5 : Int32) (y6 : Int32) (ls : Array Slot), lv_has ls 8 [(0, .ref o), (1, .int y1), (2, .int y2), (3, .int y3), (4, .int y4), (5, .int y5), (6, .int y6)] → f_X4_hasPeace_L6 z0 y1 y2 y3 y4 n y5 y6 = some v → W p l e rm_X4_hasPeace s m args below meth c s.heap [] 0 0 (Q) (F0 m 6 ls []) := by
  obtain ⟨hx, hb, hr, hml, hown, hts, hlocks⟩ := id C0
  have hF : CallFix p m c cX4_hasPeace 8 s args BW RX4 := ⟨hx, hb, hml, hown, hts⟩
  intro n
  induction n with
  | zero =>
    intro y5 y6 ls hl h
    rw [f_X4_hasPeace_L6] at h
    cases h
  | succ n ih =>
    intro y5 y6 ls hl h
    rw [f_X4_hasPeace_L6] at h
    refine lv_iload hx hb dX4_hasPeace_6 (lv_at hl 6 rfl) ?_
    refine lv_aload_n hx hb dX4_hasPeace_8 rfl (lv_at hl 0 rfl) ?_
    refine va_get (D := D) (v := .ref a) (C := RX4) (T := TX4) (N := 10) hx hb hts iw_X4 hown hK hP 0 rfl rfl 0 (by decide) (hts _ mw_414) (fun _ h9 => h9) hfs dX4_hasPeace_9 ?_
    refine lv_bipush (v := 47) hx hb dX4_hasPeace_12 (by decide) ?_
    obtain ⟨x1, h2, h⟩ := bE h
    refine x_iald (cA := cI) hx hb hK hP 1 0 rfl rfl h2 dX4_hasPeace_14 ?_
    refine lv_icmp_ge (tgt := 103) hx hb dX4_hasPeace_15 (by decide) (fun c3 => ?_) (fun c3 => ?_)
    · have h := xt c3 h
      cases h
      exact hj _ (lv_sub hl [5] rfl)
    · have h := xf c3 h
      refine lv_iload hx hb dX4_hasPeace_18 (lv_at hl 6 rfl) ?_
      refine lv_iload_n hx hb dX4_hasPeace_20 rfl (lv_at hl 3 rfl) ?_
      refine x_j (V := Int32) (nL := 8) (fun v4 => [(0, .ref o), (1, .int y1), (2, .int y2), (3, .int y3), (4, .int y4), (5, .int y5), (6, .int y6)]) 51 (fun v4 => [.int v4]) h (fun v4 h ls hl => ?_) (fun v4 h hj => ?_)
      · refine lv_istore (lv' := [(7, .int v4), (0, .ref o), (1, .int y1), (2, .int y2), (3, .int y3), (4, .int y4), (5, .int y5), (6, .int y6)]) hx hb dX4_hasPeace_51 hl (by decide) rfl (fun ls hl => ?_)
        refine lv_iload hx hb dX4_hasPeace_53 (lv_at hl 6 rfl) ?_
        refine lv_if_ne (tgt := 90) hx hb dX4_hasPeace_55 (by decide) (fun c5 => ?_) (fun c5 => ?_)
        · have h := xf c5 h
          refine lv_iconst (v := 1) hx hb dX4_hasPeace_90 (by decide) ?_
          refine lv_goto (tgt := 95) hx hb dX4_hasPeace_91 (by decide) ?_
          refine lv_istore (lv' := [(5, .int (1 : Int32)), (7, .int v4), (0, .ref o), (1, .int y1), (2, .int y2), (3, .int y3), (4, .int y4), (6, .int y6)]) hx hb dX4_hasPeace_95 hl (by decide) rfl (fun ls hl => ?_)
          refine lv_iinc (v := (y6 + (1 : Int32))) (lv' := [(6, .int (y6 + (1 : Int32))), (5, .int (1 : Int32)), (7, .int v4), (0, .ref o), (1, .int y1), (2, .int y2), (3, .int y3), (4, .int y4)]) hx hb dX4_hasPeace_97 hl (k := 7) rfl rfl (by decide) rfl (fun ls hl => ?_)
          refine lv_goto (tgt := 6) hx hb dX4_hasPeace_100 (by decide) ?_
          exact ih (1 : Int32) (y6 + (1 : Int32)) _ (lv_sub hl [3, 4, 5, 6, 7, 1, 0] rfl) h
        · have h := xt c5 h
          refine lv_iload hx hb dX4_hasPeace_58 (lv_at hl 0 rfl) ?_
          refine lv_if_eq (tgt := 94) hx hb dX4_hasPeace_60 (by decide) (fun c6 => ?_) (fun c6 => ?_)
          · have h := xt c6 h
            refine lv_iconst (v := 0) hx hb dX4_hasPeace_94 (by decide) ?_
            refine lv_istore (lv' := [(5, .int (0 : Int32)), (7, .int v4), (0, .ref o), (1, .int y1), (2, .int y2), (3, .int y3), (4, .int y4), (6, .int y6)]) hx hb dX4_hasPeace_95 hl (by decide) rfl (fun ls hl => ?_)
            refine lv_iinc (v := (y6 + (1 : Int32))) (lv' := [(6, .int (y6 + (1 : Int32))), (5, .int (0 : Int32)), (7, .int v4), (0, .ref o), (1, .int y1), (2, .int y2), (3, .int y3), (4, .int y4)]) hx hb dX4_hasPeace_97 hl (k := 7) rfl rfl (by decide) rfl (fun ls hl => ?_)
            refine lv_goto (tgt := 6) hx hb dX4_hasPeace_100 (by decide) ?_
            exact ih (0 : Int32) (y6 + (1 : Int32)) _ (lv_sub hl [3, 4, 5, 6, 7, 1, 0] rfl) h
          · have h := xf c6 h
            refine lv_aload_n hx hb dX4_hasPeace_63 rfl (lv_at hl 1 rfl) ?_
            refine va_get (D := D) (v := .ref a) (C := RX4) (T := TX4) (N := 10) hx hb hts iw_X4 hown hK hP 0 rfl rfl 0 (by decide) (hts _ mw_414) (fun _ h9 => h9) hfs dX4_hasPeace_64 ?_
            refine lv_iconst (v := 4) hx hb dX4_hasPeace_67 (by decide) ?_
            obtain ⟨x7, h8, h⟩ := bE h
            refine x_iald (cA := cI) hx hb hK hP 1 0 rfl rfl h8 dX4_hasPeace_68 ?_
            refine lv_iload hx hb dX4_hasPeace_69 (lv_at hl 5 rfl) ?_
            refine lv_iadd hx hb dX4_hasPeace_71 ?_
            refine lv_aload_n hx hb dX4_hasPeace_72 rfl (lv_at hl 1 rfl) ?_
            refine lv_iload hx hb dX4_hasPeace_73 (lv_at hl 7 rfl) ?_
            refine lv_bipush (v := 7) hx hb dX4_hasPeace_75 (by decide) ?_
            obtain ⟨x9, h10, h⟩ := bE h
            refine x_RV (As := [.int y6, .int (7 : Int32)]) (rest := [.int (x7 + y4)]) hF (c_X4_quarrel0 l D cI cZ cT o fs a hfs z0 y6 (7 : Int32) x9 h10) (cwV 2 hts (gqV mw_437 mw_438 mw_439 mw_428 mw_431) rfl rfl rfl hd_X4_quarrel0 ⟨Nat.le_of_ble_eq_true rfl, Nat.le_of_ble_eq_true rfl⟩) hK hP q_T_bl (fun _ _ _ => trivial) [0, 1] rfl rfl rfl rfl hl.1 rfl (Nat.le_of_ble_eq_true rfl) dX4_hasPeace_77 ⟨Nat.zero_le _, Nat.zero_le _⟩ ?_
            refine lv_isub hx hb dX4_hasPeace_80 ?_
            refine lv_aload_n hx hb dX4_hasPeace_81 rfl (lv_at hl 1 rfl) ?_
            refine va_get (D := D) (v := .ref a) (C := RX4) (T := TX4) (N := 10) hx hb hts iw_X4 hown hK hP 0 rfl rfl 0 (by decide) (hts _ mw_414) (fun _ h9 => h9) hfs dX4_hasPeace_82 ?_
            refine lv_iconst (v := 3) hx hb dX4_hasPeace_85 (by decide) ?_
            obtain ⟨x11, h12, h⟩ := bE h
            refine x_iald (cA := cI) hx hb hK hP 1 0 rfl rfl h12 dX4_hasPeace_86 ?_
            refine lv_icmp_gt (tgt := 94) hx hb dX4_hasPeace_87 (by decide) (fun c13 => ?_) (fun c13 => ?_)
            · have h := xt c13 h
              refine lv_iconst (v := 0) hx hb dX4_hasPeace_94 (by decide) ?_
              refine lv_istore (lv' := [(5, .int (0 : Int32)), (7, .int v4), (0, .ref o), (1, .int y1), (2, .int y2), (3, .int y3), (4, .int y4), (6, .int y6)]) hx hb dX4_hasPeace_95 hl (by decide) rfl (fun ls hl => ?_)
              refine lv_iinc (v := (y6 + (1 : Int32))) (lv' := [(6, .int (y6 + (1 : Int32))), (5, .int (0 : Int32)), (7, .int v4), (0, .ref o), (1, .int y1), (2, .int y2), (3, .int y3), (4, .int y4)]) hx hb dX4_hasPeace_97 hl (k := 7) rfl rfl (by decide) rfl (fun ls hl => ?_)
              refine lv_goto (tgt := 6) hx hb dX4_hasPeace_100 (by decide) ?_
              exact ih (0 : Int32) (y6 + (1 : Int32)) _ (lv_sub hl [3, 4, 5, 6, 7, 1, 0] rfl) h
            · have h := xf c13 h
              refine lv_iconst (v := 1) hx hb dX4_hasPeace_90 (by decide) ?_
              refine lv_goto (tgt := 95) hx hb dX4_hasPeace_91 (by decide) ?_
              refine lv_istore (lv' := [(5, .int (1 : Int32)), (7, .int v4), (0, .ref o), (1, .int y1), (2, .int y2), (3, .int y3), (4, .int y4), (6, .int y6)]) hx hb dX4_hasPeace_95 hl (by decide) rfl (fun ls hl => ?_)
              refine lv_iinc (v := (y6 + (1 : Int32))) (lv' := [(6, .int (y6 + (1 : Int32))), (5, .int (1 : Int32)), (7, .int v4), (0, .ref o), (1, .int y1), (2, .int y2), (3, .int y3), (4, .int y4)]) hx hb dX4_hasPeace_97 hl (k := 7) rfl rfl (by decide) rfl (fun ls hl => ?_)
              refine lv_goto (tgt := 6) hx hb dX4_hasPeace_100 (by decide) ?_
              exact ih (1 : Int32) (y6 + (1 : Int32)) _ (lv_sub hl [3, 4, 5, 6, 7, 1, 0] rfl) h
      · refine lv_icmp_eq (tgt := 50) hx hb dX4_hasPeace_21 (by decide) (fun c14 => ?_) (fun c14 => ?_)
        · have h := xt c14 h
          refine lv_iconst (v := 0) hx hb dX4_hasPeace_50 (by decide) ?_
          cases h
          exact hj _ (lv_sub hl [0, 1, 2, 3, 4, 5, 6] rfl)
        · have h := xf c14 h
          refine lv_aload_n hx hb dX4_hasPeace_24 rfl (lv_at hl 0 rfl) ?_
          refine lv_iload hx hb dX4_hasPeace_25 (lv_at hl 6 rfl) ?_
          refine lv_iload_n hx hb dX4_hasPeace_27 rfl (lv_at hl 1 rfl) ?_
          refine lv_iload_n hx hb dX4_hasPeace_28 rfl (lv_at hl 2 rfl) ?_
          obtain ⟨x15, h16, h⟩ := bE h
          refine x_RV (As := [.int y6, .int y1, .int y2]) (rest := []) hF (c_X4_areOfThese l D cI cZ cT o fs a hfs z0 y6 y1 y2 x15 h16) (cwV 3 hts (gqV mw_441 mw_442 mw_443 mw_428 mw_436) rfl rfl rfl hd_X4_areOfThese ⟨Nat.le_of_ble_eq_true rfl, Nat.le_of_ble_eq_true rfl⟩) hK hP q_T_bl (fun _ _ _ => trivial) [0, 1] rfl rfl rfl rfl hl.1 rfl (Nat.le_of_ble_eq_true rfl) dX4_hasPeace_29 ⟨Nat.zero_le _, Nat.zero_le _⟩ ?_
          refine lv_if_eq (tgt := 50) hx hb dX4_hasPeace_32 (by decide) (fun c17 => ?_) (fun c17 => ?_)
          · have h := xt c17 h
            refine lv_iconst (v := 0) hx hb dX4_hasPeace_50 (by decide) ?_
            cases h
            exact hj _ (lv_sub hl [0, 1, 2, 3, 4, 5, 6] rfl)
          · have h := xf c17 h
            refine lv_aload_n hx hb dX4_hasPeace_35 rfl (lv_at hl 0 rfl) ?_
            refine lv_iload hx hb dX4_hasPeace_36 (lv_at hl 6 rfl) ?_
            refine lv_iconst (v := 4) hx hb dX4_hasPeace_38 (by decide) ?_
            obtain ⟨x18, h19, h⟩ := bE h
            refine x_RV (As := [.int y6, .int (4 : Int32)]) (rest := []) hF (c_X4_quarrel0 l D cI cZ cT o fs a hfs z0 y6 (4 : Int32) x18 h19) (cwV 2 hts (gqV mw_437 mw_438 mw_439 mw_428 mw_431) rfl rfl rfl hd_X4_quarrel0 ⟨Nat.le_of_ble_eq_true rfl, Nat.le_of_ble_eq_true rfl⟩) hK hP q_T_bl (fun _ _ _ => trivial) [0, 1] rfl rfl rfl rfl hl.1 rfl (Nat.le_of_ble_eq_true rfl) dX4_hasPeace_39 ⟨Nat.zero_le _, Nat.zero_le _⟩ ?_
            refine lv_iconst (v := 1) hx hb dX4_hasPeace_42 (by decide) ?_
            refine lv_icmp_ne (tgt := 50) hx hb dX4_hasPeace_43 (by decide) (fun c20 => ?_) (fun c20 => ?_)
            · have h := xf c20 h
              refine lv_iconst (v := 0) hx hb dX4_hasPeace_50 (by decide) ?_
              cases h
              exact hj _ (lv_sub hl [0, 1, 2, 3, 4, 5, 6] rfl)
            · have h := xt c20 h
              refine lv_iconst (v := 1) hx hb dX4_hasPeace_46 (by decide) ?_
              refine lv_goto (tgt := 51) hx hb dX4_hasPeace_47 (by decide) ?_
              cases h
              exact hj _ (lv_sub hl [0, 1, 2, 3, 4, 5, 6] rfl)
set_option maxHeartbeats 4000000 in
set_option maxRecDepth 100000 in
theorem c_X4_hasPeace (l : Launch) (D : va_G) (cI cZ cT : ClassId) (o : Nat) (fs : List Value) (a : Nat) (hfs : fs[0]? = some (.ref a)) (u : Nat → Int32) (a1 : Int32) (a2 : Int32) (a3 : Int32) (a4 : Int32) (r : Int32) (h : f_X4_hasPeace u a1 a2 a3 a4 = some r) : Met l yX4_hasPeace (wq yX4_hasPeace cX4_hasPeace 8 (some .boolean)) rm_X4_hasPeace (q_R D (q_tys cI cZ cT) (wS cI o fs a u) q_T [.ref o, .int a1, .int a2, .int a3, .int a4]) (vp_Si (fun r' => r' = r)) 0 0 (fun _ => False) := by
  refine q_RI (cc := cX4_hasPeace) (maxL := 8) (ret := (some .boolean)) (plainFor_of_name (by decide)) (Nat.le_of_ble_eq_true rfl) (fun p e s m below meth c C0 hP hK hE ls hl => ?_)
  have hl : lv_has ls 8 [(0, .ref o), (1, .int a1), (2, .int a2), (3, .int a3), (4, .int a4)] := hl
  obtain ⟨hx, hb, hr, hml, hown, hts, hlocks⟩ := id C0
  have hF : CallFix p m c cX4_hasPeace 8 s _ BW RX4 := ⟨hx, hb, hml, hown, hts⟩
  rw [f_X4_hasPeace] at h
  refine lv_iconst (v := 0) hx hb dX4_hasPeace_0 (by decide) ?_
  refine lv_istore (lv' := [(5, .int (0 : Int32)), (0, .ref o), (1, .int a1), (2, .int a2), (3, .int a3), (4, .int a4)]) hx hb dX4_hasPeace_1 hl (by decide) rfl (fun ls hl => ?_)
  refine lv_iconst (v := 0) hx hb dX4_hasPeace_3 (by decide) ?_
  refine lv_istore (lv' := [(6, .int (0 : Int32)), (5, .int (0 : Int32)), (0, .ref o), (1, .int a1), (2, .int a2), (3, .int a3), (4, .int a4)]) hx hb dX4_hasPeace_4 hl (by decide) rfl (fun ls hl => ?_)
  obtain ⟨v21, h22, h⟩ := bE h
  refine k_X4_hasPeace_L6 (v := v21) o fs a hfs u a1 a2 a3 a4 C0 hK hP (fun ls hl => ?_) 2000 (0 : Int32) (0 : Int32) _ (lv_sub hl [2, 3, 4, 5, 6, 1, 0] rfl) h22
  refine lv_iload hx hb dX4_hasPeace_103 (lv_at hl 0 rfl) ?_
  obtain ⟨x23, h24, h⟩ := bE h
  obtain ⟨hz, ex23⟩ := gb_e h24
  subst ex23
  cases h
  exact x_retR C0 (x_nz hz) dX4_hasPeace_105

/-! QuarrelWaysModel.haveSeconds (III)Z -/
def f_X4_haveSeconds (u : Nat → Int32) (a1 : Int32) (a2 : Int32) (a3 : Int32) : Option (Int32) := ((f_X4_person0 u a1 (2 : Int32)).bind fun x1 => ((f_X4_person0 u a2 (2 : Int32)).bind fun x3 => (((if x1 = (-6 : Int32) then some (0 : Int32) else (if x3 = (-6 : Int32) then some (0 : Int32) else (if x1 = x3 then some (0 : Int32) else (if x1 = a2 then some (0 : Int32) else (if x3 = a1 then some (0 : Int32) else some (1 : Int32)))))) : Option (Int32)).bind fun v5 => (if v5 = 0 then some (0 : Int32) else ((f_X4_person0 u x1 (1 : Int32)).bind fun x7 => ((f_X4_person0 u x3 (1 : Int32)).bind fun x9 => (if (x7 + x9) < ((2 : Int32) * a3) then some (0 : Int32) else some (1 : Int32))))))))
abbrev rm_X4_haveSeconds : Room := { frames := 1, cells := 0, slots := 0, locals := 22 }
theorem hd_X4_haveSeconds : yX4_haveSeconds.cls = RX4 ∧ yX4_haveSeconds.cls ≠ "java/lang/invoke/MethodHandle" ∧ yX4_haveSeconds.cls ≠ "java/lang/invoke/VarHandle" ∧ (parseMethodDescriptor yX4_haveSeconds.desc).map (fun d => d.parameters.length) = some 3 := by decide +kernel
set_option maxHeartbeats 4000000 in
set_option maxRecDepth 100000 in
theorem c_X4_haveSeconds (l : Launch) (D : va_G) (cI cZ cT : ClassId) (o : Nat) (fs : List Value) (a : Nat) (hfs : fs[0]? = some (.ref a)) (u : Nat → Int32) (a1 : Int32) (a2 : Int32) (a3 : Int32) (r : Int32) (h : f_X4_haveSeconds u a1 a2 a3 = some r) : Met l yX4_haveSeconds (wq yX4_haveSeconds cX4_haveSeconds 7 (some .boolean)) rm_X4_haveSeconds (q_R D (q_tys cI cZ cT) (wS cI o fs a u) q_T [.ref o, .int a1, .int a2, .int a3]) (vp_Si (fun r' => r' = r)) 0 0 (fun _ => False) := by
  refine q_RI (cc := cX4_haveSeconds) (maxL := 7) (ret := (some .boolean)) (plainFor_of_name (by decide)) (Nat.le_of_ble_eq_true rfl) (fun p e s m below meth c C0 hP hK hE ls hl => ?_)
  have hl : lv_has ls 7 [(0, .ref o), (1, .int a1), (2, .int a2), (3, .int a3)] := hl
  obtain ⟨hx, hb, hr, hml, hown, hts, hlocks⟩ := id C0
  have hF : CallFix p m c cX4_haveSeconds 7 s _ BW RX4 := ⟨hx, hb, hml, hown, hts⟩
  rw [f_X4_haveSeconds] at h
  refine lv_aload_n hx hb dX4_haveSeconds_0 rfl (lv_at hl 0 rfl) ?_
  refine lv_iload_n hx hb dX4_haveSeconds_1 rfl (lv_at hl 1 rfl) ?_
  refine lv_iconst (v := 2) hx hb dX4_haveSeconds_2 (by decide) ?_
  obtain ⟨x1, h2, h⟩ := bE h
  refine x_RV (As := [.int a1, .int (2 : Int32)]) (rest := []) hF (c_X4_person0 l D cI cZ cT o fs a hfs u a1 (2 : Int32) x1 h2) (cwV 2 hts (gqV mw_433 mw_434 mw_435 mw_428 mw_430) rfl rfl rfl hd_X4_person0 ⟨Nat.le_of_ble_eq_true rfl, Nat.le_of_ble_eq_true rfl⟩) hK hP q_T_bl (fun _ _ _ => trivial) [0, 1] rfl rfl rfl rfl hl.1 rfl (Nat.le_of_ble_eq_true rfl) dX4_haveSeconds_3 ⟨Nat.zero_le _, Nat.zero_le _⟩ ?_
  refine lv_istore (lv' := [(4, .int x1), (0, .ref o), (1, .int a1), (2, .int a2), (3, .int a3)]) hx hb dX4_haveSeconds_6 hl (by decide) rfl (fun ls hl => ?_)
  refine lv_aload_n hx hb dX4_haveSeconds_8 rfl (lv_at hl 1 rfl) ?_
  refine lv_iload_n hx hb dX4_haveSeconds_9 rfl (lv_at hl 3 rfl) ?_
  refine lv_iconst (v := 2) hx hb dX4_haveSeconds_10 (by decide) ?_
  obtain ⟨x3, h4, h⟩ := bE h
  refine x_RV (As := [.int a2, .int (2 : Int32)]) (rest := []) hF (c_X4_person0 l D cI cZ cT o fs a hfs u a2 (2 : Int32) x3 h4) (cwV 2 hts (gqV mw_433 mw_434 mw_435 mw_428 mw_430) rfl rfl rfl hd_X4_person0 ⟨Nat.le_of_ble_eq_true rfl, Nat.le_of_ble_eq_true rfl⟩) hK hP q_T_bl (fun _ _ _ => trivial) [0, 1] rfl rfl rfl rfl hl.1 rfl (Nat.le_of_ble_eq_true rfl) dX4_haveSeconds_11 ⟨Nat.zero_le _, Nat.zero_le _⟩ ?_
  refine lv_istore (lv' := [(5, .int x3), (4, .int x1), (0, .ref o), (1, .int a1), (2, .int a2), (3, .int a3)]) hx hb dX4_haveSeconds_14 hl (by decide) rfl (fun ls hl => ?_)
  refine lv_iload hx hb dX4_haveSeconds_16 (lv_at hl 1 rfl) ?_
  refine lv_bipush (v := (-6)) hx hb dX4_haveSeconds_18 (by decide) ?_
  refine x_j (V := Int32) (nL := 7) (fun v5 => [(0, .ref o), (3, .int a3), (4, .int x1), (5, .int x3)]) 54 (fun v5 => [.int v5]) h (fun v5 h ls hl => ?_) (fun v5 h hj => ?_)
  · refine lv_istore (lv' := [(6, .int v5), (0, .ref o), (3, .int a3), (4, .int x1), (5, .int x3)]) hx hb dX4_haveSeconds_54 hl (by decide) rfl (fun ls hl => ?_)
    refine lv_iload hx hb dX4_haveSeconds_56 (lv_at hl 0 rfl) ?_
    refine lv_if_eq (tgt := 86) hx hb dX4_haveSeconds_58 (by decide) (fun c6 => ?_) (fun c6 => ?_)
    · have h := xt c6 h
      refine lv_iconst (v := 0) hx hb dX4_haveSeconds_86 (by decide) ?_
      cases h
      exact x_retR C0 rfl dX4_haveSeconds_87
    · have h := xf c6 h
      refine lv_aload_n hx hb dX4_haveSeconds_61 rfl (lv_at hl 1 rfl) ?_
      refine lv_iload hx hb dX4_haveSeconds_62 (lv_at hl 3 rfl) ?_
      refine lv_iconst (v := 1) hx hb dX4_haveSeconds_64 (by decide) ?_
      obtain ⟨x7, h8, h⟩ := bE h
      refine x_RV (As := [.int x1, .int (1 : Int32)]) (rest := []) hF (c_X4_person0 l D cI cZ cT o fs a hfs u x1 (1 : Int32) x7 h8) (cwV 2 hts (gqV mw_433 mw_434 mw_435 mw_428 mw_430) rfl rfl rfl hd_X4_person0 ⟨Nat.le_of_ble_eq_true rfl, Nat.le_of_ble_eq_true rfl⟩) hK hP q_T_bl (fun _ _ _ => trivial) [0, 1] rfl rfl rfl rfl hl.1 rfl (Nat.le_of_ble_eq_true rfl) dX4_haveSeconds_65 ⟨Nat.zero_le _, Nat.zero_le _⟩ ?_
      refine lv_aload_n hx hb dX4_haveSeconds_68 rfl (lv_at hl 1 rfl) ?_
      refine lv_iload hx hb dX4_haveSeconds_69 (lv_at hl 4 rfl) ?_
      refine lv_iconst (v := 1) hx hb dX4_haveSeconds_71 (by decide) ?_
      obtain ⟨x9, h10, h⟩ := bE h
      refine x_RV (As := [.int x3, .int (1 : Int32)]) (rest := [.int x7]) hF (c_X4_person0 l D cI cZ cT o fs a hfs u x3 (1 : Int32) x9 h10) (cwV 2 hts (gqV mw_433 mw_434 mw_435 mw_428 mw_430) rfl rfl rfl hd_X4_person0 ⟨Nat.le_of_ble_eq_true rfl, Nat.le_of_ble_eq_true rfl⟩) hK hP q_T_bl (fun _ _ _ => trivial) [0, 1] rfl rfl rfl rfl hl.1 rfl (Nat.le_of_ble_eq_true rfl) dX4_haveSeconds_72 ⟨Nat.zero_le _, Nat.zero_le _⟩ ?_
      refine lv_iadd hx hb dX4_haveSeconds_75 ?_
      refine lv_iconst (v := 2) hx hb dX4_haveSeconds_76 (by decide) ?_
      refine lv_iload_n hx hb dX4_haveSeconds_77 rfl (lv_at hl 2 rfl) ?_
      refine lv_imul hx hb dX4_haveSeconds_78 ?_
      refine lv_icmp_lt (tgt := 86) hx hb dX4_haveSeconds_79 (by decide) (fun c11 => ?_) (fun c11 => ?_)
      · have h := xt c11 h
        refine lv_iconst (v := 0) hx hb dX4_haveSeconds_86 (by decide) ?_
        cases h
        exact x_retR C0 rfl dX4_haveSeconds_87
      · have h := xf c11 h
        refine lv_iconst (v := 1) hx hb dX4_haveSeconds_82 (by decide) ?_
        refine lv_goto (tgt := 87) hx hb dX4_haveSeconds_83 (by decide) ?_
        cases h
        exact x_retR C0 rfl dX4_haveSeconds_87
  · refine lv_icmp_eq (tgt := 53) hx hb dX4_haveSeconds_20 (by decide) (fun c12 => ?_) (fun c12 => ?_)
    · have h := xt c12 h
      refine lv_iconst (v := 0) hx hb dX4_haveSeconds_53 (by decide) ?_
      cases h
      exact hj _ (lv_sub hl [2, 5, 1, 0] rfl)
    · have h := xf c12 h
      refine lv_iload hx hb dX4_haveSeconds_23 (lv_at hl 0 rfl) ?_
      refine lv_bipush (v := (-6)) hx hb dX4_haveSeconds_25 (by decide) ?_
      refine lv_icmp_eq (tgt := 53) hx hb dX4_haveSeconds_27 (by decide) (fun c13 => ?_) (fun c13 => ?_)
      · have h := xt c13 h
        refine lv_iconst (v := 0) hx hb dX4_haveSeconds_53 (by decide) ?_
        cases h
        exact hj _ (lv_sub hl [2, 5, 1, 0] rfl)
      · have h := xf c13 h
        refine lv_iload hx hb dX4_haveSeconds_30 (lv_at hl 1 rfl) ?_
        refine lv_iload hx hb dX4_haveSeconds_32 (lv_at hl 0 rfl) ?_
        refine lv_icmp_eq (tgt := 53) hx hb dX4_haveSeconds_34 (by decide) (fun c14 => ?_) (fun c14 => ?_)
        · have h := xt c14 h
          refine lv_iconst (v := 0) hx hb dX4_haveSeconds_53 (by decide) ?_
          cases h
          exact hj _ (lv_sub hl [2, 5, 1, 0] rfl)
        · have h := xf c14 h
          refine lv_iload hx hb dX4_haveSeconds_37 (lv_at hl 1 rfl) ?_
          refine lv_iload_n hx hb dX4_haveSeconds_39 rfl (lv_at hl 4 rfl) ?_
          refine lv_icmp_eq (tgt := 53) hx hb dX4_haveSeconds_40 (by decide) (fun c15 => ?_) (fun c15 => ?_)
          · have h := xt c15 h
            refine lv_iconst (v := 0) hx hb dX4_haveSeconds_53 (by decide) ?_
            cases h
            exact hj _ (lv_sub hl [2, 5, 1, 0] rfl)
          · have h := xf c15 h
            refine lv_iload hx hb dX4_haveSeconds_43 (lv_at hl 0 rfl) ?_
            refine lv_iload_n hx hb dX4_haveSeconds_45 rfl (lv_at hl 3 rfl) ?_
            refine lv_icmp_eq (tgt := 53) hx hb dX4_haveSeconds_46 (by decide) (fun c16 => ?_) (fun c16 => ?_)
            · have h := xt c16 h
              refine lv_iconst (v := 0) hx hb dX4_haveSeconds_53 (by decide) ?_
              cases h
              exact hj _ (lv_sub hl [2, 5, 1, 0] rfl)
            · have h := xf c16 h
              refine lv_iconst (v := 1) hx hb dX4_haveSeconds_49 (by decide) ?_
              refine lv_goto (tgt := 54) hx hb dX4_haveSeconds_50 (by decide) ?_
              cases h
              exact hj _ (lv_sub hl [2, 5, 1, 0] rfl)

/-! QuarrelWaysModel.waysFor (IIIIII)I -/
def f_X4_waysFor (u : Nat → Int32) (a1 : Int32) (a2 : Int32) (a3 : Int32) (a4 : Int32) (a5 : Int32) (a6 : Int32) : Option (Int32) := ((f_X4_person0 u a1 (0 : Int32)).bind fun x1 => (((if (9 : Int32) < (x1 + a3) then some (0 : Int32) else some (1 : Int32)) : Option (Int32)).bind fun v3 => ((f_X4_haveSeconds u a1 a2 a3).bind fun x4 => (((if x4 = 0 then some (0 : Int32) else some (2 : Int32)) : Option (Int32)).bind fun v6 => ((rd u 181 (0 : Int32)).bind fun x7 => (((if (a4 + a6) < (x7 * a3) then some (0 : Int32) else some (4 : Int32)) : Option (Int32)).bind fun v9 => ((f_X4_isUnderOath u a1 a6).bind fun x10 => (((if x10 = 0 then ((f_X4_isUnderOath u a2 a6).bind fun x20 => (if x20 = 0 then some (0 : Int32) else some (8 : Int32))) else some (8 : Int32)) : Option (Int32)).bind fun v12 => ((f_X4_hasPeace u a1 a2 a5 a6).bind fun x13 => (((if x13 = 0 then some (0 : Int32) else some (16 : Int32)) : Option (Int32)).bind fun v15 => ((rd u 181 (46 : Int32)).bind fun x16 => some (((((v3 ||| v6) ||| v9) ||| v12) ||| v15) &&& x16))))))))))))
abbrev rm_X4_waysFor : Room := { frames := 3, cells := 0, slots := 0, locals := 74 }
theorem hd_X4_waysFor : yX4_waysFor.cls = RX4 ∧ yX4_waysFor.cls ≠ "java/lang/invoke/MethodHandle" ∧ yX4_waysFor.cls ≠ "java/lang/invoke/VarHandle" ∧ (parseMethodDescriptor yX4_waysFor.desc).map (fun d => d.parameters.length) = some 6 := by decide +kernel
set_option maxHeartbeats 4000000 in
set_option maxRecDepth 100000 in
theorem c_X4_waysFor (l : Launch) (D : va_G) (cI cZ cT : ClassId) (o : Nat) (fs : List Value) (a : Nat) (hfs : fs[0]? = some (.ref a)) (u : Nat → Int32) (a1 : Int32) (a2 : Int32) (a3 : Int32) (a4 : Int32) (a5 : Int32) (a6 : Int32) (r : Int32) (h : f_X4_waysFor u a1 a2 a3 a4 a5 a6 = some r) : Met l yX4_waysFor (wq yX4_waysFor cX4_waysFor 8 (some .int)) rm_X4_waysFor (q_R D (q_tys cI cZ cT) (wS cI o fs a u) q_T [.ref o, .int a1, .int a2, .int a3, .int a4, .int a5, .int a6]) (vp_Si (fun r' => r' = r)) 0 0 (fun _ => False) := by
  refine q_RI (cc := cX4_waysFor) (maxL := 8) (ret := (some .int)) (plainFor_of_name (by decide)) (Nat.le_of_ble_eq_true rfl) (fun p e s m below meth c C0 hP hK hE ls hl => ?_)
  have hl : lv_has ls 8 [(0, .ref o), (1, .int a1), (2, .int a2), (3, .int a3), (4, .int a4), (5, .int a5), (6, .int a6)] := hl
  obtain ⟨hx, hb, hr, hml, hown, hts, hlocks⟩ := id C0
  have hF : CallFix p m c cX4_waysFor 8 s _ BW RX4 := ⟨hx, hb, hml, hown, hts⟩
  rw [f_X4_waysFor] at h
  refine lv_aload_n hx hb dX4_waysFor_0 rfl (lv_at hl 0 rfl) ?_
  refine lv_iload_n hx hb dX4_waysFor_1 rfl (lv_at hl 1 rfl) ?_
  refine lv_iconst (v := 0) hx hb dX4_waysFor_2 (by decide) ?_
  obtain ⟨x1, h2, h⟩ := bE h
  refine x_RV (As := [.int a1, .int (0 : Int32)]) (rest := []) hF (c_X4_person0 l D cI cZ cT o fs a hfs u a1 (0 : Int32) x1 h2) (cwV 2 hts (gqV mw_433 mw_434 mw_435 mw_428 mw_430) rfl rfl rfl hd_X4_person0 ⟨Nat.le_of_ble_eq_true rfl, Nat.le_of_ble_eq_true rfl⟩) hK hP q_T_bl (fun _ _ _ => trivial) [0, 1] rfl rfl rfl rfl hl.1 rfl (Nat.le_of_ble_eq_true rfl) dX4_waysFor_3 ⟨Nat.zero_le _, Nat.zero_le _⟩ ?_
  refine lv_iload_n hx hb dX4_waysFor_6 rfl (lv_at hl 3 rfl) ?_
  refine lv_iadd hx hb dX4_waysFor_7 ?_
  refine lv_bipush (v := 9) hx hb dX4_waysFor_8 (by decide) ?_
  refine x_j (V := Int32) (nL := 8) (fun v3 => [(0, .ref o), (1, .int a1), (2, .int a2), (3, .int a3), (4, .int a4), (5, .int a5), (6, .int a6)]) 18 (fun v3 => [.int v3]) h (fun v3 h ls hl => ?_) (fun v3 h hj => ?_)
  · refine lv_istore (lv' := [(7, .int v3), (0, .ref o), (1, .int a1), (2, .int a2), (3, .int a3), (4, .int a4), (5, .int a5), (6, .int a6)]) hx hb dX4_waysFor_18 hl (by decide) rfl (fun ls hl => ?_)
    refine lv_iload hx hb dX4_waysFor_20 (lv_at hl 0 rfl) ?_
    refine lv_aload_n hx hb dX4_waysFor_22 rfl (lv_at hl 1 rfl) ?_
    refine lv_iload_n hx hb dX4_waysFor_23 rfl (lv_at hl 2 rfl) ?_
    refine lv_iload_n hx hb dX4_waysFor_24 rfl (lv_at hl 3 rfl) ?_
    refine lv_iload_n hx hb dX4_waysFor_25 rfl (lv_at hl 4 rfl) ?_
    obtain ⟨x4, h5, h⟩ := bE h
    refine x_RV (As := [.int a1, .int a2, .int a3]) (rest := [.int v3]) hF (c_X4_haveSeconds l D cI cZ cT o fs a hfs u a1 a2 a3 x4 h5) (cwV 3 hts (gqV mw_445 mw_446 mw_447 mw_428 mw_444) rfl rfl rfl hd_X4_haveSeconds ⟨Nat.le_of_ble_eq_true rfl, Nat.le_of_ble_eq_true rfl⟩) hK hP q_T_bl (fun _ _ _ => trivial) [0, 1] rfl rfl rfl rfl hl.1 rfl (Nat.le_of_ble_eq_true rfl) dX4_waysFor_26 ⟨Nat.zero_le _, Nat.zero_le _⟩ ?_
    refine x_j (V := Int32) (nL := 8) (fun v6 => [(0, .ref o), (1, .int a1), (2, .int a2), (3, .int a3), (4, .int a4), (5, .int a5), (6, .int a6)]) 37 (fun v6 => [.int v6, .int v3]) h (fun v6 h ls hl => ?_) (fun v6 h hj => ?_)
    · refine lv_ior hx hb dX4_waysFor_37 ?_
      refine lv_istore (lv' := [(7, .int (v3 ||| v6)), (0, .ref o), (1, .int a1), (2, .int a2), (3, .int a3), (4, .int a4), (5, .int a5), (6, .int a6)]) hx hb dX4_waysFor_38 hl (by decide) rfl (fun ls hl => ?_)
      refine lv_iload hx hb dX4_waysFor_40 (lv_at hl 0 rfl) ?_
      refine lv_iload hx hb dX4_waysFor_42 (lv_at hl 5 rfl) ?_
      refine lv_iload hx hb dX4_waysFor_44 (lv_at hl 7 rfl) ?_
      refine lv_iadd hx hb dX4_waysFor_46 ?_
      refine lv_aload_n hx hb dX4_waysFor_47 rfl (lv_at hl 1 rfl) ?_
      refine va_get (D := D) (v := .ref a) (C := RX4) (T := TX4) (N := 10) hx hb hts iw_X4 hown hK hP 0 rfl rfl 0 (by decide) (hts _ mw_414) (fun _ h9 => h9) hfs dX4_waysFor_48 ?_
      refine lv_iconst (v := 0) hx hb dX4_waysFor_51 (by decide) ?_
      obtain ⟨x7, h8, h⟩ := bE h
      refine x_iald (cA := cI) hx hb hK hP 1 0 rfl rfl h8 dX4_waysFor_52 ?_
      refine lv_iload_n hx hb dX4_waysFor_53 rfl (lv_at hl 4 rfl) ?_
      refine lv_imul hx hb dX4_waysFor_54 ?_
      refine x_j (V := Int32) (nL := 8) (fun v9 => [(0, .ref o), (1, .int a1), (2, .int a2), (5, .int a5), (6, .int a6)]) 63 (fun v9 => [.int v9, .int (v3 ||| v6)]) h (fun v9 h ls hl => ?_) (fun v9 h hj => ?_)
      · refine lv_ior hx hb dX4_waysFor_63 ?_
        refine lv_istore (lv' := [(7, .int ((v3 ||| v6) ||| v9)), (0, .ref o), (1, .int a1), (2, .int a2), (5, .int a5), (6, .int a6)]) hx hb dX4_waysFor_64 hl (by decide) rfl (fun ls hl => ?_)
        refine lv_iload hx hb dX4_waysFor_66 (lv_at hl 0 rfl) ?_
        refine lv_aload_n hx hb dX4_waysFor_68 rfl (lv_at hl 1 rfl) ?_
        refine lv_iload_n hx hb dX4_waysFor_69 rfl (lv_at hl 2 rfl) ?_
        refine lv_iload hx hb dX4_waysFor_70 (lv_at hl 5 rfl) ?_
        obtain ⟨x10, h11, h⟩ := bE h
        refine x_RV (As := [.int a1, .int a6]) (rest := [.int ((v3 ||| v6) ||| v9)]) hF (c_X4_isUnderOath l D cI cZ cT o fs a hfs u a1 a6 x10 h11) (cwV 2 hts (gqV mw_448 mw_449 mw_450 mw_428 mw_432) rfl rfl rfl hd_X4_isUnderOath ⟨Nat.le_of_ble_eq_true rfl, Nat.le_of_ble_eq_true rfl⟩) hK hP q_T_bl (fun _ _ _ => trivial) [0, 1] rfl rfl rfl rfl hl.1 rfl (Nat.le_of_ble_eq_true rfl) dX4_waysFor_72 ⟨Nat.zero_le _, Nat.zero_le _⟩ ?_
        refine x_j (V := Int32) (nL := 8) (fun v12 => [(0, .ref o), (1, .int a1), (2, .int a2), (5, .int a5), (6, .int a6)]) 94 (fun v12 => [.int v12, .int ((v3 ||| v6) ||| v9)]) h (fun v12 h ls hl => ?_) (fun v12 h hj => ?_)
        · refine lv_ior hx hb dX4_waysFor_94 ?_
          refine lv_istore (lv' := [(7, .int (((v3 ||| v6) ||| v9) ||| v12)), (0, .ref o), (1, .int a1), (2, .int a2), (5, .int a5), (6, .int a6)]) hx hb dX4_waysFor_95 hl (by decide) rfl (fun ls hl => ?_)
          refine lv_iload hx hb dX4_waysFor_97 (lv_at hl 0 rfl) ?_
          refine lv_aload_n hx hb dX4_waysFor_99 rfl (lv_at hl 1 rfl) ?_
          refine lv_iload_n hx hb dX4_waysFor_100 rfl (lv_at hl 2 rfl) ?_
          refine lv_iload_n hx hb dX4_waysFor_101 rfl (lv_at hl 3 rfl) ?_
          refine lv_iload hx hb dX4_waysFor_102 (lv_at hl 4 rfl) ?_
          refine lv_iload hx hb dX4_waysFor_104 (lv_at hl 5 rfl) ?_
          obtain ⟨x13, h14, h⟩ := bE h
          refine x_RV (As := [.int a1, .int a2, .int a5, .int a6]) (rest := [.int (((v3 ||| v6) ||| v9) ||| v12)]) hF (c_X4_hasPeace l D cI cZ cT o fs a hfs u a1 a2 a5 a6 x13 h14) (cwV 4 hts (gqV mw_451 mw_452 mw_453 mw_428 mw_440) rfl rfl rfl hd_X4_hasPeace ⟨Nat.le_of_ble_eq_true rfl, Nat.le_of_ble_eq_true rfl⟩) hK hP q_T_bl (fun _ _ _ => trivial) [0, 1] rfl rfl rfl rfl hl.1 rfl (Nat.le_of_ble_eq_true rfl) dX4_waysFor_106 ⟨Nat.zero_le _, Nat.zero_le _⟩ ?_
          refine x_j (V := Int32) (nL := 8) (fun v15 => [(0, .ref o)]) 118 (fun v15 => [.int v15, .int (((v3 ||| v6) ||| v9) ||| v12)]) h (fun v15 h ls hl => ?_) (fun v15 h hj => ?_)
          · refine lv_ior hx hb dX4_waysFor_118 ?_
            refine lv_istore (lv' := [(7, .int ((((v3 ||| v6) ||| v9) ||| v12) ||| v15)), (0, .ref o)]) hx hb dX4_waysFor_119 hl (by decide) rfl (fun ls hl => ?_)
            refine lv_iload hx hb dX4_waysFor_121 (lv_at hl 0 rfl) ?_
            refine lv_aload_n hx hb dX4_waysFor_123 rfl (lv_at hl 1 rfl) ?_
            refine va_get (D := D) (v := .ref a) (C := RX4) (T := TX4) (N := 10) hx hb hts iw_X4 hown hK hP 0 rfl rfl 0 (by decide) (hts _ mw_414) (fun _ h9 => h9) hfs dX4_waysFor_124 ?_
            refine lv_bipush (v := 46) hx hb dX4_waysFor_127 (by decide) ?_
            obtain ⟨x16, h17, h⟩ := bE h
            refine x_iald (cA := cI) hx hb hK hP 1 0 rfl rfl h17 dX4_waysFor_129 ?_
            refine lv_iand hx hb dX4_waysFor_130 ?_
            cases h
            exact x_retR C0 rfl dX4_waysFor_131
          · refine lv_if_eq (tgt := 117) hx hb dX4_waysFor_109 (by decide) (fun c18 => ?_) (fun c18 => ?_)
            · have h := xt c18 h
              refine lv_iconst (v := 0) hx hb dX4_waysFor_117 (by decide) ?_
              cases h
              exact hj _ (lv_sub hl [1] rfl)
            · have h := xf c18 h
              refine lv_bipush (v := 16) hx hb dX4_waysFor_112 (by decide) ?_
              refine lv_goto (tgt := 118) hx hb dX4_waysFor_114 (by decide) ?_
              cases h
              exact hj _ (lv_sub hl [1] rfl)
        · refine lv_if_ne (tgt := 88) hx hb dX4_waysFor_75 (by decide) (fun c19 => ?_) (fun c19 => ?_)
          · have h := xf c19 h
            refine lv_bipush (v := 8) hx hb dX4_waysFor_88 (by decide) ?_
            refine lv_goto (tgt := 94) hx hb dX4_waysFor_90 (by decide) ?_
            cases h
            exact hj _ (lv_sub hl [1, 2, 3, 4, 5] rfl)
          · have h := xt c19 h
            refine lv_aload_n hx hb dX4_waysFor_78 rfl (lv_at hl 1 rfl) ?_
            refine lv_iload_n hx hb dX4_waysFor_79 rfl (lv_at hl 3 rfl) ?_
            refine lv_iload hx hb dX4_waysFor_80 (lv_at hl 5 rfl) ?_
            obtain ⟨x20, h21, h⟩ := bE h
            refine x_RV (As := [.int a2, .int a6]) (rest := [.int ((v3 ||| v6) ||| v9)]) hF (c_X4_isUnderOath l D cI cZ cT o fs a hfs u a2 a6 x20 h21) (cwV 2 hts (gqV mw_448 mw_449 mw_450 mw_428 mw_432) rfl rfl rfl hd_X4_isUnderOath ⟨Nat.le_of_ble_eq_true rfl, Nat.le_of_ble_eq_true rfl⟩) hK hP q_T_bl (fun _ _ _ => trivial) [0, 1] rfl rfl rfl rfl hl.1 rfl (Nat.le_of_ble_eq_true rfl) dX4_waysFor_82 ⟨Nat.zero_le _, Nat.zero_le _⟩ ?_
            refine lv_if_eq (tgt := 93) hx hb dX4_waysFor_85 (by decide) (fun c22 => ?_) (fun c22 => ?_)
            · have h := xt c22 h
              refine lv_iconst (v := 0) hx hb dX4_waysFor_93 (by decide) ?_
              cases h
              exact hj _ (lv_sub hl [1, 2, 3, 4, 5] rfl)
            · have h := xf c22 h
              refine lv_bipush (v := 8) hx hb dX4_waysFor_88 (by decide) ?_
              refine lv_goto (tgt := 94) hx hb dX4_waysFor_90 (by decide) ?_
              cases h
              exact hj _ (lv_sub hl [1, 2, 3, 4, 5] rfl)
      · refine lv_icmp_lt (tgt := 62) hx hb dX4_waysFor_55 (by decide) (fun c23 => ?_) (fun c23 => ?_)
        · have h := xt c23 h
          refine lv_iconst (v := 0) hx hb dX4_waysFor_62 (by decide) ?_
          cases h
          exact hj _ (lv_sub hl [1, 2, 3, 6, 7] rfl)
        · have h := xf c23 h
          refine lv_iconst (v := 4) hx hb dX4_waysFor_58 (by decide) ?_
          refine lv_goto (tgt := 63) hx hb dX4_waysFor_59 (by decide) ?_
          cases h
          exact hj _ (lv_sub hl [1, 2, 3, 6, 7] rfl)
    · refine lv_if_eq (tgt := 36) hx hb dX4_waysFor_29 (by decide) (fun c24 => ?_) (fun c24 => ?_)
      · have h := xt c24 h
        refine lv_iconst (v := 0) hx hb dX4_waysFor_36 (by decide) ?_
        cases h
        exact hj _ (lv_sub hl [1, 2, 3, 4, 5, 6, 7] rfl)
      · have h := xf c24 h
        refine lv_iconst (v := 2) hx hb dX4_waysFor_32 (by decide) ?_
        refine lv_goto (tgt := 37) hx hb dX4_waysFor_33 (by decide) ?_
        cases h
        exact hj _ (lv_sub hl [1, 2, 3, 4, 5, 6, 7] rfl)
  · refine lv_icmp_gt (tgt := 17) hx hb dX4_waysFor_10 (by decide) (fun c25 => ?_) (fun c25 => ?_)
    · have h := xt c25 h
      refine lv_iconst (v := 0) hx hb dX4_waysFor_17 (by decide) ?_
      cases h
      exact hj _ (lv_sub hl [0, 1, 2, 3, 4, 5, 6] rfl)
    · have h := xf c25 h
      refine lv_iconst (v := 1) hx hb dX4_waysFor_13 (by decide) ?_
      refine lv_goto (tgt := 18) hx hb dX4_waysFor_14 (by decide) ?_
      cases h
      exact hj _ (lv_sub hl [0, 1, 2, 3, 4, 5, 6] rfl)

/-! QuarrelWaysModel.since (I)I -/
def f_X4_since (u : Nat → Int32) (a1 : Int32) : Option (Int32) := ((rd u 181 (4 : Int32)).bind fun x1 => ((f_X4_quarrel0 u a1 (3 : Int32)).bind fun x3 => some (x1 - x3)))
abbrev rm_X4_since : Room := { frames := 1, cells := 0, slots := 0, locals := 22 }
theorem hd_X4_since : yX4_since.cls = RX4 ∧ yX4_since.cls ≠ "java/lang/invoke/MethodHandle" ∧ yX4_since.cls ≠ "java/lang/invoke/VarHandle" ∧ (parseMethodDescriptor yX4_since.desc).map (fun d => d.parameters.length) = some 1 := by decide +kernel
set_option maxHeartbeats 4000000 in
set_option maxRecDepth 100000 in
theorem c_X4_since (l : Launch) (D : va_G) (cI cZ cT : ClassId) (o : Nat) (fs : List Value) (a : Nat) (hfs : fs[0]? = some (.ref a)) (u : Nat → Int32) (a1 : Int32) (r : Int32) (h : f_X4_since u a1 = some r) : Met l yX4_since (wq yX4_since cX4_since 2 (some .int)) rm_X4_since (q_R D (q_tys cI cZ cT) (wS cI o fs a u) q_T [.ref o, .int a1]) (vp_Si (fun r' => r' = r)) 0 0 (fun _ => False) := by
  refine q_RI (cc := cX4_since) (maxL := 2) (ret := (some .int)) (plainFor_of_name (by decide)) (Nat.le_of_ble_eq_true rfl) (fun p e s m below meth c C0 hP hK hE ls hl => ?_)
  have hl : lv_has ls 2 [(0, .ref o), (1, .int a1)] := hl
  obtain ⟨hx, hb, hr, hml, hown, hts, hlocks⟩ := id C0
  have hF : CallFix p m c cX4_since 2 s _ BW RX4 := ⟨hx, hb, hml, hown, hts⟩
  rw [f_X4_since] at h
  refine lv_aload_n hx hb dX4_since_0 rfl (lv_at hl 0 rfl) ?_
  refine va_get (D := D) (v := .ref a) (C := RX4) (T := TX4) (N := 10) hx hb hts iw_X4 hown hK hP 0 rfl rfl 0 (by decide) (hts _ mw_414) (fun _ h9 => h9) hfs dX4_since_1 ?_
  refine lv_iconst (v := 4) hx hb dX4_since_4 (by decide) ?_
  obtain ⟨x1, h2, h⟩ := bE h
  refine x_iald (cA := cI) hx hb hK hP 1 0 rfl rfl h2 dX4_since_5 ?_
  refine lv_aload_n hx hb dX4_since_6 rfl (lv_at hl 0 rfl) ?_
  refine lv_iload_n hx hb dX4_since_7 rfl (lv_at hl 1 rfl) ?_
  refine lv_iconst (v := 3) hx hb dX4_since_8 (by decide) ?_
  obtain ⟨x3, h4, h⟩ := bE h
  refine x_RV (As := [.int a1, .int (3 : Int32)]) (rest := [.int x1]) hF (c_X4_quarrel0 l D cI cZ cT o fs a hfs u a1 (3 : Int32) x3 h4) (cwV 2 hts (gqV mw_437 mw_438 mw_439 mw_428 mw_431) rfl rfl rfl hd_X4_quarrel0 ⟨Nat.le_of_ble_eq_true rfl, Nat.le_of_ble_eq_true rfl⟩) hK hP q_T_bl (fun _ _ _ => trivial) [0, 1] rfl rfl rfl rfl hl.1 rfl (Nat.le_of_ble_eq_true rfl) dX4_since_9 ⟨Nat.zero_le _, Nat.zero_le _⟩ ?_
  refine lv_isub hx hb dX4_since_12 ?_
  cases h
  exact x_retR C0 rfl dX4_since_13

/-! QuarrelWaysModel.waysOf (II)I -/
def f_X4_waysOf (u : Nat → Int32) (a1 : Int32) (a2 : Int32) : Option (Int32) := ((f_X4_quarrel0 u a1 (4 : Int32)).bind fun x1 => (if x1 = 0 then ((f_X4_quarrel0 u a1 (0 : Int32)).bind fun x4 => ((f_X4_quarrel0 u a1 (1 : Int32)).bind fun x6 => ((f_X4_quarrel0 u a1 (2 : Int32)).bind fun x8 => ((f_X4_since u a1).bind fun x10 => ((f_X4_waysFor u x4 x6 x8 x10 a1 a2).bind fun x12 => some x12))))) else some (0 : Int32)))
abbrev rm_X4_waysOf : Room := { frames := 4, cells := 0, slots := 0, locals := 101 }
theorem hd_X4_waysOf : yX4_waysOf.cls = RX4 ∧ yX4_waysOf.cls ≠ "java/lang/invoke/MethodHandle" ∧ yX4_waysOf.cls ≠ "java/lang/invoke/VarHandle" ∧ (parseMethodDescriptor yX4_waysOf.desc).map (fun d => d.parameters.length) = some 2 := by decide +kernel
set_option maxHeartbeats 4000000 in
set_option maxRecDepth 100000 in
theorem c_X4_waysOf (l : Launch) (D : va_G) (cI cZ cT : ClassId) (o : Nat) (fs : List Value) (a : Nat) (hfs : fs[0]? = some (.ref a)) (u : Nat → Int32) (a1 : Int32) (a2 : Int32) (r : Int32) (h : f_X4_waysOf u a1 a2 = some r) : Met l yX4_waysOf (wq yX4_waysOf cX4_waysOf 3 (some .int)) rm_X4_waysOf (q_R D (q_tys cI cZ cT) (wS cI o fs a u) q_T [.ref o, .int a1, .int a2]) (vp_Si (fun r' => r' = r)) 0 0 (fun _ => False) := by
  refine q_RI (cc := cX4_waysOf) (maxL := 3) (ret := (some .int)) (plainFor_of_name (by decide)) (Nat.le_of_ble_eq_true rfl) (fun p e s m below meth c C0 hP hK hE ls hl => ?_)
  have hl : lv_has ls 3 [(0, .ref o), (1, .int a1), (2, .int a2)] := hl
  obtain ⟨hx, hb, hr, hml, hown, hts, hlocks⟩ := id C0
  have hF : CallFix p m c cX4_waysOf 3 s _ BW RX4 := ⟨hx, hb, hml, hown, hts⟩
  rw [f_X4_waysOf] at h
  refine lv_aload_n hx hb dX4_waysOf_0 rfl (lv_at hl 0 rfl) ?_
  refine lv_iload_n hx hb dX4_waysOf_1 rfl (lv_at hl 1 rfl) ?_
  refine lv_iconst (v := 4) hx hb dX4_waysOf_2 (by decide) ?_
  obtain ⟨x1, h2, h⟩ := bE h
  refine x_RV (As := [.int a1, .int (4 : Int32)]) (rest := []) hF (c_X4_quarrel0 l D cI cZ cT o fs a hfs u a1 (4 : Int32) x1 h2) (cwV 2 hts (gqV mw_437 mw_438 mw_439 mw_428 mw_431) rfl rfl rfl hd_X4_quarrel0 ⟨Nat.le_of_ble_eq_true rfl, Nat.le_of_ble_eq_true rfl⟩) hK hP q_T_bl (fun _ _ _ => trivial) [0, 1] rfl rfl rfl rfl hl.1 rfl (Nat.le_of_ble_eq_true rfl) dX4_waysOf_3 ⟨Nat.zero_le _, Nat.zero_le _⟩ ?_
  refine lv_if_eq (tgt := 13) hx hb dX4_waysOf_6 (by decide) (fun c3 => ?_) (fun c3 => ?_)
  · have h := xt c3 h
    refine lv_aload_n hx hb dX4_waysOf_13 rfl (lv_at hl 0 rfl) ?_
    refine lv_aload_n hx hb dX4_waysOf_14 rfl (lv_at hl 0 rfl) ?_
    refine lv_iload_n hx hb dX4_waysOf_15 rfl (lv_at hl 1 rfl) ?_
    refine lv_iconst (v := 0) hx hb dX4_waysOf_16 (by decide) ?_
    obtain ⟨x4, h5, h⟩ := bE h
    refine x_RV (As := [.int a1, .int (0 : Int32)]) (rest := [.ref o]) hF (c_X4_quarrel0 l D cI cZ cT o fs a hfs u a1 (0 : Int32) x4 h5) (cwV 2 hts (gqV mw_437 mw_438 mw_439 mw_428 mw_431) rfl rfl rfl hd_X4_quarrel0 ⟨Nat.le_of_ble_eq_true rfl, Nat.le_of_ble_eq_true rfl⟩) hK hP q_T_bl (fun _ _ _ => trivial) [0, 1] rfl rfl rfl rfl hl.1 rfl (Nat.le_of_ble_eq_true rfl) dX4_waysOf_17 ⟨Nat.zero_le _, Nat.zero_le _⟩ ?_
    refine lv_aload_n hx hb dX4_waysOf_20 rfl (lv_at hl 0 rfl) ?_
    refine lv_iload_n hx hb dX4_waysOf_21 rfl (lv_at hl 1 rfl) ?_
    refine lv_iconst (v := 1) hx hb dX4_waysOf_22 (by decide) ?_
    obtain ⟨x6, h7, h⟩ := bE h
    refine x_RV (As := [.int a1, .int (1 : Int32)]) (rest := [.int x4, .ref o]) hF (c_X4_quarrel0 l D cI cZ cT o fs a hfs u a1 (1 : Int32) x6 h7) (cwV 2 hts (gqV mw_437 mw_438 mw_439 mw_428 mw_431) rfl rfl rfl hd_X4_quarrel0 ⟨Nat.le_of_ble_eq_true rfl, Nat.le_of_ble_eq_true rfl⟩) hK hP q_T_bl (fun _ _ _ => trivial) [0, 1] rfl rfl rfl rfl hl.1 rfl (Nat.le_of_ble_eq_true rfl) dX4_waysOf_23 ⟨Nat.zero_le _, Nat.zero_le _⟩ ?_
    refine lv_aload_n hx hb dX4_waysOf_26 rfl (lv_at hl 0 rfl) ?_
    refine lv_iload_n hx hb dX4_waysOf_27 rfl (lv_at hl 1 rfl) ?_
    refine lv_iconst (v := 2) hx hb dX4_waysOf_28 (by decide) ?_
    obtain ⟨x8, h9, h⟩ := bE h
    refine x_RV (As := [.int a1, .int (2 : Int32)]) (rest := [.int x6, .int x4, .ref o]) hF (c_X4_quarrel0 l D cI cZ cT o fs a hfs u a1 (2 : Int32) x8 h9) (cwV 2 hts (gqV mw_437 mw_438 mw_439 mw_428 mw_431) rfl rfl rfl hd_X4_quarrel0 ⟨Nat.le_of_ble_eq_true rfl, Nat.le_of_ble_eq_true rfl⟩) hK hP q_T_bl (fun _ _ _ => trivial) [0, 1] rfl rfl rfl rfl hl.1 rfl (Nat.le_of_ble_eq_true rfl) dX4_waysOf_29 ⟨Nat.zero_le _, Nat.zero_le _⟩ ?_
    refine lv_aload_n hx hb dX4_waysOf_32 rfl (lv_at hl 0 rfl) ?_
    refine lv_iload_n hx hb dX4_waysOf_33 rfl (lv_at hl 1 rfl) ?_
    obtain ⟨x10, h11, h⟩ := bE h
    refine x_RV (As := [.int a1]) (rest := [.int x8, .int x6, .int x4, .ref o]) hF (c_X4_since l D cI cZ cT o fs a hfs u a1 x10 h11) (cwV 1 hts (gqV mw_456 mw_457 mw_458 mw_428 mw_455) rfl rfl rfl hd_X4_since ⟨Nat.le_of_ble_eq_true rfl, Nat.le_of_ble_eq_true rfl⟩) hK hP q_T_bl (fun _ _ _ => trivial) [0, 1] rfl rfl rfl rfl hl.1 rfl (Nat.le_of_ble_eq_true rfl) dX4_waysOf_34 ⟨Nat.zero_le _, Nat.zero_le _⟩ ?_
    refine lv_iload_n hx hb dX4_waysOf_37 rfl (lv_at hl 1 rfl) ?_
    refine lv_iload_n hx hb dX4_waysOf_38 rfl (lv_at hl 2 rfl) ?_
    obtain ⟨x12, h13, h⟩ := bE h
    refine x_RV (As := [.int x4, .int x6, .int x8, .int x10, .int a1, .int a2]) (rest := []) hF (c_X4_waysFor l D cI cZ cT o fs a hfs u x4 x6 x8 x10 a1 a2 x12 h13) (cwV 6 hts (gqV mw_459 mw_460 mw_461 mw_428 mw_454) rfl rfl rfl hd_X4_waysFor ⟨Nat.le_of_ble_eq_true rfl, Nat.le_of_ble_eq_true rfl⟩) hK hP q_T_bl (fun _ _ _ => trivial) [0, 1] rfl rfl rfl rfl hl.1 rfl (Nat.le_of_ble_eq_true rfl) dX4_waysOf_39 ⟨Nat.zero_le _, Nat.zero_le _⟩ ?_
    cases h
    exact x_retR C0 rfl dX4_waysOf_42
  · have h := xf c3 h
    refine lv_iconst (v := 0) hx hb dX4_waysOf_9 (by decide) ?_
    refine lv_goto (tgt := 42) hx hb dX4_waysOf_10 (by decide) ?_
    cases h
    exact x_retR C0 rfl dX4_waysOf_42

/-! QuarrelWaysModel.reason (II)I -/
def f_X4_reason (u : Nat → Int32) (a1 : Int32) (a2 : Int32) : Option (Int32) := ((f_X4_quarrel0 u a1 (4 : Int32)).bind fun x1 => (if x1 = 0 then ((f_X4_waysOf u a1 a2).bind fun x4 => (if x4 = 0 then ((f_X4_since u a1).bind fun x7 => ((rd u 181 (1 : Int32)).bind fun x9 => (if x9 ≤ (x7 + a2) then some (0 : Int32) else some (3 : Int32)))) else some (2 : Int32))) else some (1 : Int32)))
abbrev rm_X4_reason : Room := { frames := 5, cells := 0, slots := 0, locals := 123 }
theorem hd_X4_reason : yX4_reason.cls = RX4 ∧ yX4_reason.cls ≠ "java/lang/invoke/MethodHandle" ∧ yX4_reason.cls ≠ "java/lang/invoke/VarHandle" ∧ (parseMethodDescriptor yX4_reason.desc).map (fun d => d.parameters.length) = some 2 := by decide +kernel
set_option maxHeartbeats 4000000 in
set_option maxRecDepth 100000 in
theorem c_X4_reason (l : Launch) (D : va_G) (cI cZ cT : ClassId) (o : Nat) (fs : List Value) (a : Nat) (hfs : fs[0]? = some (.ref a)) (u : Nat → Int32) (a1 : Int32) (a2 : Int32) (r : Int32) (h : f_X4_reason u a1 a2 = some r) : Met l yX4_reason (wq yX4_reason cX4_reason 3 (some .int)) rm_X4_reason (q_R D (q_tys cI cZ cT) (wS cI o fs a u) q_T [.ref o, .int a1, .int a2]) (vp_Si (fun r' => r' = r)) 0 0 (fun _ => False) := by
  refine q_RI (cc := cX4_reason) (maxL := 3) (ret := (some .int)) (plainFor_of_name (by decide)) (Nat.le_of_ble_eq_true rfl) (fun p e s m below meth c C0 hP hK hE ls hl => ?_)
  have hl : lv_has ls 3 [(0, .ref o), (1, .int a1), (2, .int a2)] := hl
  obtain ⟨hx, hb, hr, hml, hown, hts, hlocks⟩ := id C0
  have hF : CallFix p m c cX4_reason 3 s _ BW RX4 := ⟨hx, hb, hml, hown, hts⟩
  rw [f_X4_reason] at h
  refine lv_aload_n hx hb dX4_reason_0 rfl (lv_at hl 0 rfl) ?_
  refine lv_iload_n hx hb dX4_reason_1 rfl (lv_at hl 1 rfl) ?_
  refine lv_iconst (v := 4) hx hb dX4_reason_2 (by decide) ?_
  obtain ⟨x1, h2, h⟩ := bE h
  refine x_RV (As := [.int a1, .int (4 : Int32)]) (rest := []) hF (c_X4_quarrel0 l D cI cZ cT o fs a hfs u a1 (4 : Int32) x1 h2) (cwV 2 hts (gqV mw_437 mw_438 mw_439 mw_428 mw_431) rfl rfl rfl hd_X4_quarrel0 ⟨Nat.le_of_ble_eq_true rfl, Nat.le_of_ble_eq_true rfl⟩) hK hP q_T_bl (fun _ _ _ => trivial) [0, 1] rfl rfl rfl rfl hl.1 rfl (Nat.le_of_ble_eq_true rfl) dX4_reason_3 ⟨Nat.zero_le _, Nat.zero_le _⟩ ?_
  refine lv_if_eq (tgt := 13) hx hb dX4_reason_6 (by decide) (fun c3 => ?_) (fun c3 => ?_)
  · have h := xt c3 h
    refine lv_aload_n hx hb dX4_reason_13 rfl (lv_at hl 0 rfl) ?_
    refine lv_iload_n hx hb dX4_reason_14 rfl (lv_at hl 1 rfl) ?_
    refine lv_iload_n hx hb dX4_reason_15 rfl (lv_at hl 2 rfl) ?_
    obtain ⟨x4, h5, h⟩ := bE h
    refine x_RV (As := [.int a1, .int a2]) (rest := []) hF (c_X4_waysOf l D cI cZ cT o fs a hfs u a1 a2 x4 h5) (cwV 2 hts (gqV mw_463 mw_464 mw_465 mw_428 mw_462) rfl rfl rfl hd_X4_waysOf ⟨Nat.le_of_ble_eq_true rfl, Nat.le_of_ble_eq_true rfl⟩) hK hP q_T_bl (fun _ _ _ => trivial) [0, 1] rfl rfl rfl rfl hl.1 rfl (Nat.le_of_ble_eq_true rfl) dX4_reason_16 ⟨Nat.zero_le _, Nat.zero_le _⟩ ?_
    refine lv_if_eq (tgt := 26) hx hb dX4_reason_19 (by decide) (fun c6 => ?_) (fun c6 => ?_)
    · have h := xt c6 h
      refine lv_aload_n hx hb dX4_reason_26 rfl (lv_at hl 0 rfl) ?_
      refine lv_iload_n hx hb dX4_reason_27 rfl (lv_at hl 1 rfl) ?_
      obtain ⟨x7, h8, h⟩ := bE h
      refine x_RV (As := [.int a1]) (rest := []) hF (c_X4_since l D cI cZ cT o fs a hfs u a1 x7 h8) (cwV 1 hts (gqV mw_456 mw_457 mw_458 mw_428 mw_455) rfl rfl rfl hd_X4_since ⟨Nat.le_of_ble_eq_true rfl, Nat.le_of_ble_eq_true rfl⟩) hK hP q_T_bl (fun _ _ _ => trivial) [0, 1] rfl rfl rfl rfl hl.1 rfl (Nat.le_of_ble_eq_true rfl) dX4_reason_28 ⟨Nat.zero_le _, Nat.zero_le _⟩ ?_
      refine lv_iload_n hx hb dX4_reason_31 rfl (lv_at hl 2 rfl) ?_
      refine lv_iadd hx hb dX4_reason_32 ?_
      refine lv_aload_n hx hb dX4_reason_33 rfl (lv_at hl 0 rfl) ?_
      refine va_get (D := D) (v := .ref a) (C := RX4) (T := TX4) (N := 10) hx hb hts iw_X4 hown hK hP 0 rfl rfl 0 (by decide) (hts _ mw_414) (fun _ h9 => h9) hfs dX4_reason_34 ?_
      refine lv_iconst (v := 1) hx hb dX4_reason_37 (by decide) ?_
      obtain ⟨x9, h10, h⟩ := bE h
      refine x_iald (cA := cI) hx hb hK hP 1 0 rfl rfl h10 dX4_reason_38 ?_
      refine lv_icmp_ge (tgt := 46) hx hb dX4_reason_39 (by decide) (fun c11 => ?_) (fun c11 => ?_)
      · have h := xt c11 h
        refine lv_iconst (v := 0) hx hb dX4_reason_46 (by decide) ?_
        cases h
        exact x_retR C0 rfl dX4_reason_47
      · have h := xf c11 h
        refine lv_iconst (v := 3) hx hb dX4_reason_42 (by decide) ?_
        refine lv_goto (tgt := 47) hx hb dX4_reason_43 (by decide) ?_
        cases h
        exact x_retR C0 rfl dX4_reason_47
    · have h := xf c6 h
      refine lv_iconst (v := 2) hx hb dX4_reason_22 (by decide) ?_
      refine lv_goto (tgt := 47) hx hb dX4_reason_23 (by decide) ?_
      cases h
      exact x_retR C0 rfl dX4_reason_47
  · have h := xf c3 h
    refine lv_iconst (v := 1) hx hb dX4_reason_9 (by decide) ?_
    refine lv_goto (tgt := 47) hx hb dX4_reason_10 (by decide) ?_
    cases h
    exact x_retR C0 rfl dX4_reason_47

/-! QuarrelWaysModel.skill (I)I -/
def f_X4_skill (u : Nat → Int32) (a1 : Int32) : Option (Int32) := ((f_X4_person0 u a1 (1 : Int32)).bind fun x1 => ((f_X4_person0 u a1 (0 : Int32)).bind fun x3 => some (((2 : Int32) * x1) + x3)))
abbrev rm_X4_skill : Room := { frames := 1, cells := 0, slots := 0, locals := 22 }
theorem hd_X4_skill : yX4_skill.cls = RX4 ∧ yX4_skill.cls ≠ "java/lang/invoke/MethodHandle" ∧ yX4_skill.cls ≠ "java/lang/invoke/VarHandle" ∧ (parseMethodDescriptor yX4_skill.desc).map (fun d => d.parameters.length) = some 1 := by decide +kernel
set_option maxHeartbeats 4000000 in
set_option maxRecDepth 100000 in
theorem c_X4_skill (l : Launch) (D : va_G) (cI cZ cT : ClassId) (o : Nat) (fs : List Value) (a : Nat) (hfs : fs[0]? = some (.ref a)) (u : Nat → Int32) (a1 : Int32) (r : Int32) (h : f_X4_skill u a1 = some r) : Met l yX4_skill (wq yX4_skill cX4_skill 2 (some .int)) rm_X4_skill (q_R D (q_tys cI cZ cT) (wS cI o fs a u) q_T [.ref o, .int a1]) (vp_Si (fun r' => r' = r)) 0 0 (fun _ => False) := by
  refine q_RI (cc := cX4_skill) (maxL := 2) (ret := (some .int)) (plainFor_of_name (by decide)) (Nat.le_of_ble_eq_true rfl) (fun p e s m below meth c C0 hP hK hE ls hl => ?_)
  have hl : lv_has ls 2 [(0, .ref o), (1, .int a1)] := hl
  obtain ⟨hx, hb, hr, hml, hown, hts, hlocks⟩ := id C0
  have hF : CallFix p m c cX4_skill 2 s _ BW RX4 := ⟨hx, hb, hml, hown, hts⟩
  rw [f_X4_skill] at h
  refine lv_iconst (v := 2) hx hb dX4_skill_0 (by decide) ?_
  refine lv_aload_n hx hb dX4_skill_1 rfl (lv_at hl 0 rfl) ?_
  refine lv_iload_n hx hb dX4_skill_2 rfl (lv_at hl 1 rfl) ?_
  refine lv_iconst (v := 1) hx hb dX4_skill_3 (by decide) ?_
  obtain ⟨x1, h2, h⟩ := bE h
  refine x_RV (As := [.int a1, .int (1 : Int32)]) (rest := [.int (2 : Int32)]) hF (c_X4_person0 l D cI cZ cT o fs a hfs u a1 (1 : Int32) x1 h2) (cwV 2 hts (gqV mw_433 mw_434 mw_435 mw_428 mw_430) rfl rfl rfl hd_X4_person0 ⟨Nat.le_of_ble_eq_true rfl, Nat.le_of_ble_eq_true rfl⟩) hK hP q_T_bl (fun _ _ _ => trivial) [0, 1] rfl rfl rfl rfl hl.1 rfl (Nat.le_of_ble_eq_true rfl) dX4_skill_4 ⟨Nat.zero_le _, Nat.zero_le _⟩ ?_
  refine lv_imul hx hb dX4_skill_7 ?_
  refine lv_aload_n hx hb dX4_skill_8 rfl (lv_at hl 0 rfl) ?_
  refine lv_iload_n hx hb dX4_skill_9 rfl (lv_at hl 1 rfl) ?_
  refine lv_iconst (v := 0) hx hb dX4_skill_10 (by decide) ?_
  obtain ⟨x3, h4, h⟩ := bE h
  refine x_RV (As := [.int a1, .int (0 : Int32)]) (rest := [.int ((2 : Int32) * x1)]) hF (c_X4_person0 l D cI cZ cT o fs a hfs u a1 (0 : Int32) x3 h4) (cwV 2 hts (gqV mw_433 mw_434 mw_435 mw_428 mw_430) rfl rfl rfl hd_X4_person0 ⟨Nat.le_of_ble_eq_true rfl, Nat.le_of_ble_eq_true rfl⟩) hK hP q_T_bl (fun _ _ _ => trivial) [0, 1] rfl rfl rfl rfl hl.1 rfl (Nat.le_of_ble_eq_true rfl) dX4_skill_11 ⟨Nat.zero_le _, Nat.zero_le _⟩ ?_
  refine lv_iadd hx hb dX4_skill_14 ?_
  cases h
  exact x_retR C0 rfl dX4_skill_15

/-! QuarrelWaysModel.winnerOf (I)I -/
def f_X4_winnerOf (u : Nat → Int32) (a1 : Int32) : Option (Int32) := ((f_X4_quarrel0 u a1 (0 : Int32)).bind fun x1 => ((f_X4_quarrel0 u a1 (1 : Int32)).bind fun x3 => ((f_X4_skill u x1).bind fun x5 => ((f_X4_skill u x3).bind fun x7 => (if x5 ≤ x7 then some x3 else some x1)))))
abbrev rm_X4_winnerOf : Room := { frames := 2, cells := 0, slots := 0, locals := 43 }
theorem hd_X4_winnerOf : yX4_winnerOf.cls = RX4 ∧ yX4_winnerOf.cls ≠ "java/lang/invoke/MethodHandle" ∧ yX4_winnerOf.cls ≠ "java/lang/invoke/VarHandle" ∧ (parseMethodDescriptor yX4_winnerOf.desc).map (fun d => d.parameters.length) = some 1 := by decide +kernel
set_option maxHeartbeats 4000000 in
set_option maxRecDepth 100000 in
theorem c_X4_winnerOf (l : Launch) (D : va_G) (cI cZ cT : ClassId) (o : Nat) (fs : List Value) (a : Nat) (hfs : fs[0]? = some (.ref a)) (u : Nat → Int32) (a1 : Int32) (r : Int32) (h : f_X4_winnerOf u a1 = some r) : Met l yX4_winnerOf (wq yX4_winnerOf cX4_winnerOf 4 (some .int)) rm_X4_winnerOf (q_R D (q_tys cI cZ cT) (wS cI o fs a u) q_T [.ref o, .int a1]) (vp_Si (fun r' => r' = r)) 0 0 (fun _ => False) := by
  refine q_RI (cc := cX4_winnerOf) (maxL := 4) (ret := (some .int)) (plainFor_of_name (by decide)) (Nat.le_of_ble_eq_true rfl) (fun p e s m below meth c C0 hP hK hE ls hl => ?_)
  have hl : lv_has ls 4 [(0, .ref o), (1, .int a1)] := hl
  obtain ⟨hx, hb, hr, hml, hown, hts, hlocks⟩ := id C0
  have hF : CallFix p m c cX4_winnerOf 4 s _ BW RX4 := ⟨hx, hb, hml, hown, hts⟩
  rw [f_X4_winnerOf] at h
  refine lv_aload_n hx hb dX4_winnerOf_0 rfl (lv_at hl 0 rfl) ?_
  refine lv_iload_n hx hb dX4_winnerOf_1 rfl (lv_at hl 1 rfl) ?_
  refine lv_iconst (v := 0) hx hb dX4_winnerOf_2 (by decide) ?_
  obtain ⟨x1, h2, h⟩ := bE h
  refine x_RV (As := [.int a1, .int (0 : Int32)]) (rest := []) hF (c_X4_quarrel0 l D cI cZ cT o fs a hfs u a1 (0 : Int32) x1 h2) (cwV 2 hts (gqV mw_437 mw_438 mw_439 mw_428 mw_431) rfl rfl rfl hd_X4_quarrel0 ⟨Nat.le_of_ble_eq_true rfl, Nat.le_of_ble_eq_true rfl⟩) hK hP q_T_bl (fun _ _ _ => trivial) [0, 1] rfl rfl rfl rfl hl.1 rfl (Nat.le_of_ble_eq_true rfl) dX4_winnerOf_3 ⟨Nat.zero_le _, Nat.zero_le _⟩ ?_
  refine lv_istore_n (lv' := [(2, .int x1), (0, .ref o), (1, .int a1)]) hx hb dX4_winnerOf_6 rfl hl (by decide) rfl (fun ls hl => ?_)
  refine lv_aload_n hx hb dX4_winnerOf_7 rfl (lv_at hl 1 rfl) ?_
  refine lv_iload_n hx hb dX4_winnerOf_8 rfl (lv_at hl 2 rfl) ?_
  refine lv_iconst (v := 1) hx hb dX4_winnerOf_9 (by decide) ?_
  obtain ⟨x3, h4, h⟩ := bE h
  refine x_RV (As := [.int a1, .int (1 : Int32)]) (rest := []) hF (c_X4_quarrel0 l D cI cZ cT o fs a hfs u a1 (1 : Int32) x3 h4) (cwV 2 hts (gqV mw_437 mw_438 mw_439 mw_428 mw_431) rfl rfl rfl hd_X4_quarrel0 ⟨Nat.le_of_ble_eq_true rfl, Nat.le_of_ble_eq_true rfl⟩) hK hP q_T_bl (fun _ _ _ => trivial) [0, 1] rfl rfl rfl rfl hl.1 rfl (Nat.le_of_ble_eq_true rfl) dX4_winnerOf_10 ⟨Nat.zero_le _, Nat.zero_le _⟩ ?_
  refine lv_istore_n (lv' := [(3, .int x3), (2, .int x1), (0, .ref o), (1, .int a1)]) hx hb dX4_winnerOf_13 rfl hl (by decide) rfl (fun ls hl => ?_)
  refine lv_aload_n hx hb dX4_winnerOf_14 rfl (lv_at hl 2 rfl) ?_
  refine lv_iload_n hx hb dX4_winnerOf_15 rfl (lv_at hl 1 rfl) ?_
  obtain ⟨x5, h6, h⟩ := bE h
  refine x_RV (As := [.int x1]) (rest := []) hF (c_X4_skill l D cI cZ cT o fs a hfs u x1 x5 h6) (cwV 1 hts (gqV mw_469 mw_470 mw_471 mw_428 mw_467) rfl rfl rfl hd_X4_skill ⟨Nat.le_of_ble_eq_true rfl, Nat.le_of_ble_eq_true rfl⟩) hK hP q_T_bl (fun _ _ _ => trivial) [0, 1] rfl rfl rfl rfl hl.1 rfl (Nat.le_of_ble_eq_true rfl) dX4_winnerOf_16 ⟨Nat.zero_le _, Nat.zero_le _⟩ ?_
  refine lv_aload_n hx hb dX4_winnerOf_19 rfl (lv_at hl 2 rfl) ?_
  refine lv_iload_n hx hb dX4_winnerOf_20 rfl (lv_at hl 0 rfl) ?_
  obtain ⟨x7, h8, h⟩ := bE h
  refine x_RV (As := [.int x3]) (rest := [.int x5]) hF (c_X4_skill l D cI cZ cT o fs a hfs u x3 x7 h8) (cwV 1 hts (gqV mw_469 mw_470 mw_471 mw_428 mw_467) rfl rfl rfl hd_X4_skill ⟨Nat.le_of_ble_eq_true rfl, Nat.le_of_ble_eq_true rfl⟩) hK hP q_T_bl (fun _ _ _ => trivial) [0, 1] rfl rfl rfl rfl hl.1 rfl (Nat.le_of_ble_eq_true rfl) dX4_winnerOf_21 ⟨Nat.zero_le _, Nat.zero_le _⟩ ?_
  refine lv_icmp_le (tgt := 31) hx hb dX4_winnerOf_24 (by decide) (fun c9 => ?_) (fun c9 => ?_)
  · have h := xt c9 h
    refine lv_iload_n hx hb dX4_winnerOf_31 rfl (lv_at hl 0 rfl) ?_
    cases h
    exact x_retR C0 rfl dX4_winnerOf_32
  · have h := xf c9 h
    refine lv_iload_n hx hb dX4_winnerOf_27 rfl (lv_at hl 1 rfl) ?_
    refine lv_goto (tgt := 32) hx hb dX4_winnerOf_28 (by decide) ?_
    cases h
    exact x_retR C0 rfl dX4_winnerOf_32

end G_MA

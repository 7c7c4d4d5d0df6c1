section G_S1
variable {p : Program} {l : Launch} {e : Env} {s : State} {m : MethodId} {args : Array Value} {below : List Frame} {meth : Method} {c : Code} {D : va_G} {cI cZ cT : ClassId}

/-! java/lang/String.isEmpty ()Z -/
def f_J0_isEmpty_aae02 (i : Nat) : Option (Int32) := (if (Int32.ofNat (sLen.getD i 0)) = 0 then some (1 : Int32) else some (0 : Int32))
abbrev rm_J0_isEmpty_aae02 : Room := { frames := 0, cells := 0, slots := 0, locals := 0 }
theorem hd_J0_isEmpty_aae02 : yJ0_isEmpty_aae02.cls = RJ0 ∧ yJ0_isEmpty_aae02.cls ≠ "java/lang/invoke/MethodHandle" ∧ yJ0_isEmpty_aae02.cls ≠ "java/lang/invoke/VarHandle" ∧ (parseMethodDescriptor yJ0_isEmpty_aae02.desc).map (fun d => d.parameters.length) = some 0 := by decide +kernel
set_option maxHeartbeats 4000000 in
set_option maxRecDepth 100000 in
theorem c_J0_isEmpty_aae02 (l : Launch) (D : va_G) (cI cZ cT : ClassId) (G : q_G) (A : Nat → Prop) (i : Nat) (hi : i < 7) (r : Int32) (h : f_J0_isEmpty_aae02 i = some r) : Met l yJ0_isEmpty_aae02 (wq yJ0_isEmpty_aae02 cJ0_isEmpty_aae02 1 (some .boolean)) rm_J0_isEmpty_aae02 (q_R D (q_tys cI cZ cT) ([]) (q_E G A) [.ref (G.1 i)]) (vp_Si (fun r' => r' = r)) 0 0 (fun _ => False) := by
  refine q_RI (cc := cJ0_isEmpty_aae02) (maxL := 1) (ret := (some .boolean)) (plainFor_of_name (by decide)) (Nat.le_of_ble_eq_true rfl) (fun p e s m below meth c C0 hP hK hE ls hl => ?_)
  have hE : q_E G A s := hE
  have hS : va_S A s.heap s.heap [] := va_S.rf
  have hl : lv_has ls 1 [(0, .ref (G.1 i))] := hl
  obtain ⟨hx, hb, hr, hml, hown, hts, hlocks⟩ := id C0
  have hF : CallFix p m c cJ0_isEmpty_aae02 1 s _ BW RJ0 := ⟨hx, hb, hml, hown, hts⟩
  rw [f_J0_isEmpty_aae02] at h
  refine lv_aload_n hx hb dJ0_isEmpty_aae02_0 rfl (lv_at hl 0 rfl) ?_
  refine vk_getf (v := .ref (G.2.1 i)) hx hb (hE.2.1.1 i hi).2.2.1 hS hown (hts _ mw_75) (fun _ h9 => h9) dJ0_isEmpty_aae02_1 ?_
  refine va_tlen hx hb (hE.2.1.1 i hi).2.2.2 hS (v := (Int32.ofNat (sLen.getD i 0))) rfl dJ0_isEmpty_aae02_4 ?_
  refine lv_if_ne (tgt := 12) hx hb dJ0_isEmpty_aae02_5 (by decide) (fun c1 => ?_) (fun c1 => ?_)
  · have h := xf c1 h
    refine lv_iconst (v := 0) hx hb dJ0_isEmpty_aae02_12 (by decide) ?_
    cases h
    exact x_retR C0 rfl dJ0_isEmpty_aae02_13
  · have h := xt c1 h
    refine lv_iconst (v := 1) hx hb dJ0_isEmpty_aae02_8 (by decide) ?_
    refine lv_goto (tgt := 13) hx hb dJ0_isEmpty_aae02_9 (by decide) ?_
    cases h
    exact x_retR C0 rfl dJ0_isEmpty_aae02_13

/-! java/lang/String.coder ()B -/
def f_J0_coder_7d493 (i : Nat) : Option (Int32) := (if (1 : Int32) = 0 then some (1 : Int32) else some (0 : Int32))
abbrev rm_J0_coder_7d493 : Room := { frames := 0, cells := 0, slots := 0, locals := 0 }
theorem hd_J0_coder_7d493 : yJ0_coder_7d493.cls = RJ0 ∧ yJ0_coder_7d493.cls ≠ "java/lang/invoke/MethodHandle" ∧ yJ0_coder_7d493.cls ≠ "java/lang/invoke/VarHandle" ∧ (parseMethodDescriptor yJ0_coder_7d493.desc).map (fun d => d.parameters.length) = some 0 := by decide +kernel
set_option maxHeartbeats 4000000 in
set_option maxRecDepth 100000 in
theorem c_J0_coder_7d493 (l : Launch) (D : va_G) (cI cZ cT : ClassId) (G : q_G) (A : Nat → Prop) (i : Nat) (hi : i < 7) (r : Int32) (h : f_J0_coder_7d493 i = some r) : Met l yJ0_coder_7d493 (wq yJ0_coder_7d493 cJ0_coder_7d493 1 (some .byte)) rm_J0_coder_7d493 (q_R D (q_tys cI cZ cT) ([]) (q_E G A) [.ref (G.1 i)]) (vp_Si (fun r' => r' = r)) 0 0 (fun _ => False) := by
  refine q_RI (cc := cJ0_coder_7d493) (maxL := 1) (ret := (some .byte)) (plainFor_of_name (by decide)) (Nat.le_of_ble_eq_true rfl) (fun p e s m below meth c C0 hP hK hE ls hl => ?_)
  have hE : q_E G A s := hE
  have hS : va_S A s.heap s.heap [] := va_S.rf
  have hl : lv_has ls 1 [(0, .ref (G.1 i))] := hl
  obtain ⟨hx, hb, hr, hml, hown, hts, hlocks⟩ := id C0
  have hF : CallFix p m c cJ0_coder_7d493 1 s _ BW RJ0 := ⟨hx, hb, hml, hown, hts⟩
  rw [f_J0_coder_7d493] at h
  refine va_gets (v := .int 1) hx hb hE.2.2.2.1 hS hown (hts _ mw_77) (fun _ h9 => h9) dJ0_coder_7d493_0 ?_
  refine lv_if_eq (tgt := 13) hx hb dJ0_coder_7d493_3 (by decide) (fun c1 => ?_) (fun c1 => ?_)
  · have h := xt c1 h
    refine lv_iconst (v := 1) hx hb dJ0_coder_7d493_13 (by decide) ?_
    cases h
    exact x_retR C0 rfl dJ0_coder_7d493_14
  · have h := xf c1 h
    refine lv_aload_n hx hb dJ0_coder_7d493_6 rfl (lv_at hl 0 rfl) ?_
    refine vk_getf (v := .int 0) hx hb (hE.2.1.1 i hi).2.1 hS hown (hts _ mw_78) (fun _ h9 => h9) dJ0_coder_7d493_7 ?_
    refine lv_goto (tgt := 14) hx hb dJ0_coder_7d493_10 (by decide) ?_
    cases h
    exact x_retR C0 rfl dJ0_coder_7d493_14

/-! java/lang/String.length ()I -/
def f_J0_length_8abf5 (i : Nat) : Option (Int32) := ((f_J0_coder_7d493 i).bind fun x1 => some ((Int32.ofNat (sLen.getD i 0)) >>> (x1 &&& 31)))
abbrev rm_J0_length_8abf5 : Room := { frames := 1, cells := 0, slots := 0, locals := 20 }
theorem hd_J0_length_8abf5 : yJ0_length_8abf5.cls = RJ0 ∧ yJ0_length_8abf5.cls ≠ "java/lang/invoke/MethodHandle" ∧ yJ0_length_8abf5.cls ≠ "java/lang/invoke/VarHandle" ∧ (parseMethodDescriptor yJ0_length_8abf5.desc).map (fun d => d.parameters.length) = some 0 := by decide +kernel
set_option maxHeartbeats 4000000 in
set_option maxRecDepth 100000 in
theorem c_J0_length_8abf5 (l : Launch) (D : va_G) (cI cZ cT : ClassId) (G : q_G) (A : Nat → Prop) (i : Nat) (hi : i < 7) (r : Int32) (h : f_J0_length_8abf5 i = some r) : Met l yJ0_length_8abf5 (wq yJ0_length_8abf5 cJ0_length_8abf5 1 (some .int)) rm_J0_length_8abf5 (q_R D (q_tys cI cZ cT) ([]) (q_E G A) [.ref (G.1 i)]) (vp_Si (fun r' => r' = r)) 0 0 (fun _ => False) := by
  refine q_RI (cc := cJ0_length_8abf5) (maxL := 1) (ret := (some .int)) (plainFor_of_name (by decide)) (Nat.le_of_ble_eq_true rfl) (fun p e s m below meth c C0 hP hK hE ls hl => ?_)
  have hE : q_E G A s := hE
  have hS : va_S A s.heap s.heap [] := va_S.rf
  have hl : lv_has ls 1 [(0, .ref (G.1 i))] := hl
  obtain ⟨hx, hb, hr, hml, hown, hts, hlocks⟩ := id C0
  have hF : CallFix p m c cJ0_length_8abf5 1 s _ BW RJ0 := ⟨hx, hb, hml, hown, hts⟩
  rw [f_J0_length_8abf5] at h
  refine lv_aload_n hx hb dJ0_length_8abf5_0 rfl (lv_at hl 0 rfl) ?_
  refine vk_getf (v := .ref (G.2.1 i)) hx hb (hE.2.1.1 i hi).2.2.1 hS hown (hts _ mw_75) (fun _ h9 => h9) dJ0_length_8abf5_1 ?_
  refine va_tlen hx hb (hE.2.1.1 i hi).2.2.2 hS (v := (Int32.ofNat (sLen.getD i 0))) rfl dJ0_length_8abf5_4 ?_
  refine lv_aload_n hx hb dJ0_length_8abf5_5 rfl (lv_at hl 0 rfl) ?_
  obtain ⟨x1, h2, h⟩ := bE h
  refine x_RVs (As := []) (rest := [.int (Int32.ofNat (sLen.getD i 0))]) hF (c_J0_coder_7d493 l D cI cZ cT G A  i hi  x1 h2) (cwV 0 hts (gqV mw_80 mw_81 mw_82 mw_83 mw_76) rfl rfl rfl hd_J0_coder_7d493 ⟨Nat.le_of_ble_eq_true rfl, Nat.le_of_ble_eq_true rfl⟩) hK hP q_E_bl (q_E_go hE hS (fun _ h9 => h9)) [] rfl (vk_recv hE.2.1 hi hS) rfl hl.1 rfl (Nat.le_of_ble_eq_true rfl) dJ0_length_8abf5_6 ⟨Nat.zero_le _, Nat.zero_le _⟩ ?_
  refine lv_ishr hx hb dJ0_length_8abf5_9 ?_
  cases h
  exact x_retR C0 rfl dJ0_length_8abf5_10

/-! java/lang/String.isLatin1 ()Z -/
def f_J0_isLatin1_aae02 (i : Nat) : Option (Int32) := (if (1 : Int32) = 0 then some (0 : Int32) else (if (0 : Int32) = 0 then some (1 : Int32) else some (0 : Int32)))
abbrev rm_J0_isLatin1_aae02 : Room := { frames := 0, cells := 0, slots := 0, locals := 0 }
theorem hd_J0_isLatin1_aae02 : yJ0_isLatin1_aae02.cls = RJ0 ∧ yJ0_isLatin1_aae02.cls ≠ "java/lang/invoke/MethodHandle" ∧ yJ0_isLatin1_aae02.cls ≠ "java/lang/invoke/VarHandle" ∧ (parseMethodDescriptor yJ0_isLatin1_aae02.desc).map (fun d => d.parameters.length) = some 0 := by decide +kernel
set_option maxHeartbeats 4000000 in
set_option maxRecDepth 100000 in
theorem c_J0_isLatin1_aae02 (l : Launch) (D : va_G) (cI cZ cT : ClassId) (G : q_G) (A : Nat → Prop) (i : Nat) (hi : i < 7) (r : Int32) (h : f_J0_isLatin1_aae02 i = some r) : Met l yJ0_isLatin1_aae02 (wq yJ0_isLatin1_aae02 cJ0_isLatin1_aae02 1 (some .boolean)) rm_J0_isLatin1_aae02 (q_R D (q_tys cI cZ cT) ([]) (q_E G A) [.ref (G.1 i)]) (vp_Si (fun r' => r' = r)) 0 0 (fun _ => False) := by
  refine q_RI (cc := cJ0_isLatin1_aae02) (maxL := 1) (ret := (some .boolean)) (plainFor_of_name (by decide)) (Nat.le_of_ble_eq_true rfl) (fun p e s m below meth c C0 hP hK hE ls hl => ?_)
  have hE : q_E G A s := hE
  have hS : va_S A s.heap s.heap [] := va_S.rf
  have hl : lv_has ls 1 [(0, .ref (G.1 i))] := hl
  obtain ⟨hx, hb, hr, hml, hown, hts, hlocks⟩ := id C0
  have hF : CallFix p m c cJ0_isLatin1_aae02 1 s _ BW RJ0 := ⟨hx, hb, hml, hown, hts⟩
  rw [f_J0_isLatin1_aae02] at h
  refine va_gets (v := .int 1) hx hb hE.2.2.2.1 hS hown (hts _ mw_77) (fun _ h9 => h9) dJ0_isLatin1_aae02_0 ?_
  refine lv_if_eq (tgt := 17) hx hb dJ0_isLatin1_aae02_3 (by decide) (fun c1 => ?_) (fun c1 => ?_)
  · have h := xt c1 h
    refine lv_iconst (v := 0) hx hb dJ0_isLatin1_aae02_17 (by decide) ?_
    cases h
    exact x_retR C0 rfl dJ0_isLatin1_aae02_18
  · have h := xf c1 h
    refine lv_aload_n hx hb dJ0_isLatin1_aae02_6 rfl (lv_at hl 0 rfl) ?_
    refine vk_getf (v := .int 0) hx hb (hE.2.1.1 i hi).2.1 hS hown (hts _ mw_78) (fun _ h9 => h9) dJ0_isLatin1_aae02_7 ?_
    refine lv_if_ne (tgt := 17) hx hb dJ0_isLatin1_aae02_10 (by decide) (fun c2 => ?_) (fun c2 => ?_)
    · have h := xf c2 h
      refine lv_iconst (v := 0) hx hb dJ0_isLatin1_aae02_17 (by decide) ?_
      cases h
      exact x_retR C0 rfl dJ0_isLatin1_aae02_18
    · have h := xt c2 h
      refine lv_iconst (v := 1) hx hb dJ0_isLatin1_aae02_13 (by decide) ?_
      refine lv_goto (tgt := 18) hx hb dJ0_isLatin1_aae02_14 (by decide) ?_
      cases h
      exact x_retR C0 rfl dJ0_isLatin1_aae02_18

/-! jdk/internal/util/Preconditions.checkIndex (IILjava/util/function/BiFunction;)I -/
def f_J3_checkIndex_8e157 (a0 : Int32) (a1 : Int32) : Option (Int32) := (if a0 < 0 then none else (if a0 < a1 then some a0 else none))
abbrev rm_J3_checkIndex_8e157 : Room := { frames := 0, cells := 0, slots := 0, locals := 0 }
theorem hd_J3_checkIndex_8e157 : yJ3_checkIndex_8e157.cls = RJ3 ∧ yJ3_checkIndex_8e157.cls ≠ "java/lang/invoke/MethodHandle" ∧ yJ3_checkIndex_8e157.cls ≠ "java/lang/invoke/VarHandle" ∧ (parseMethodDescriptor yJ3_checkIndex_8e157.desc).map (fun d => d.parameters.length) = some 3 := by decide +kernel
set_option maxHeartbeats 4000000 in
set_option maxRecDepth 100000 in
theorem c_J3_checkIndex_8e157_N (l : Launch) (D : va_G) (cI cZ cT : ClassId) (a0 : Int32) (a1 : Int32) (r : Int32) (h : f_J3_checkIndex_8e157 a0 a1 = some r) : Met l yJ3_checkIndex_8e157 (wq yJ3_checkIndex_8e157 cJ3_checkIndex_8e157 3 (some .int)) rm_J3_checkIndex_8e157 (q_R D (q_tys cI cZ cT) ([]) q_T [.int a0, .int a1, .null]) (vp_Si (fun r' => r' = r)) 0 0 (fun _ => False) := by
  refine q_RI (cc := cJ3_checkIndex_8e157) (maxL := 3) (ret := (some .int)) (plainFor_of_name (by decide)) (Nat.le_of_ble_eq_true rfl) (fun p e s m below meth c C0 hP hK hE ls hl => ?_)
  have hl : lv_has ls 3 [(0, .int a0), (1, .int a1), (2, .null)] := hl
  obtain ⟨hx, hb, hr, hml, hown, hts, hlocks⟩ := id C0
  have hF : CallFix p m c cJ3_checkIndex_8e157 3 s _ BW RJ3 := ⟨hx, hb, hml, hown, hts⟩
  rw [f_J3_checkIndex_8e157] at h
  refine lv_iload_n hx hb dJ3_checkIndex_8e157_0 rfl (lv_at hl 0 rfl) ?_
  refine lv_if_lt (tgt := 9) hx hb dJ3_checkIndex_8e157_1 (by decide) (fun c1 => ?_) (fun c1 => ?_)
  · have h := xt c1 h
    cases h
  · have h := xf c1 h
    refine lv_iload_n hx hb dJ3_checkIndex_8e157_4 rfl (lv_at hl 0 rfl) ?_
    refine lv_iload_n hx hb dJ3_checkIndex_8e157_5 rfl (lv_at hl 1 rfl) ?_
    refine lv_icmp_lt (tgt := 16) hx hb dJ3_checkIndex_8e157_6 (by decide) (fun c2 => ?_) (fun c2 => ?_)
    · have h := xt c2 h
      refine lv_iload_n hx hb dJ3_checkIndex_8e157_16 rfl (lv_at hl 0 rfl) ?_
      cases h
      exact x_retR C0 rfl dJ3_checkIndex_8e157_17
    · have h := xf c2 h
      cases h

/-! jdk/internal/util/Preconditions.checkIndex (IILjava/util/function/BiFunction;)I -/
set_option maxHeartbeats 4000000 in
set_option maxRecDepth 100000 in
theorem c_J3_checkIndex_8e157_R (l : Launch) (D : va_G) (cI cZ cT : ClassId) (z0 : Nat) (a0 : Int32) (a1 : Int32) (r : Int32) (h : f_J3_checkIndex_8e157 a0 a1 = some r) : Met l yJ3_checkIndex_8e157 (wq yJ3_checkIndex_8e157 cJ3_checkIndex_8e157 3 (some .int)) rm_J3_checkIndex_8e157 (q_R D (q_tys cI cZ cT) ([]) q_T [.int a0, .int a1, .ref z0]) (vp_Si (fun r' => r' = r)) 0 0 (fun _ => False) := by
  refine q_RI (cc := cJ3_checkIndex_8e157) (maxL := 3) (ret := (some .int)) (plainFor_of_name (by decide)) (Nat.le_of_ble_eq_true rfl) (fun p e s m below meth c C0 hP hK hE ls hl => ?_)
  have hl : lv_has ls 3 [(0, .int a0), (1, .int a1), (2, .ref z0)] := hl
  obtain ⟨hx, hb, hr, hml, hown, hts, hlocks⟩ := id C0
  have hF : CallFix p m c cJ3_checkIndex_8e157 3 s _ BW RJ3 := ⟨hx, hb, hml, hown, hts⟩
  rw [f_J3_checkIndex_8e157] at h
  refine lv_iload_n hx hb dJ3_checkIndex_8e157_0 rfl (lv_at hl 0 rfl) ?_
  refine lv_if_lt (tgt := 9) hx hb dJ3_checkIndex_8e157_1 (by decide) (fun c1 => ?_) (fun c1 => ?_)
  · have h := xt c1 h
    cases h
  · have h := xf c1 h
    refine lv_iload_n hx hb dJ3_checkIndex_8e157_4 rfl (lv_at hl 0 rfl) ?_
    refine lv_iload_n hx hb dJ3_checkIndex_8e157_5 rfl (lv_at hl 1 rfl) ?_
    refine lv_icmp_lt (tgt := 16) hx hb dJ3_checkIndex_8e157_6 (by decide) (fun c2 => ?_) (fun c2 => ?_)
    · have h := xt c2 h
      refine lv_iload_n hx hb dJ3_checkIndex_8e157_16 rfl (lv_at hl 0 rfl) ?_
      cases h
      exact x_retR C0 rfl dJ3_checkIndex_8e157_17
    · have h := xf c2 h
      cases h

/-! java/lang/String.checkIndex (II)V -/
def f_J0_checkIndex_df160 (a0 : Int32) (a1 : Int32) : Option (Unit) := ((f_J3_checkIndex_8e157 a0 a1).bind fun x2 => some ())
abbrev rm_J0_checkIndex_df160 : Room := { frames := 1, cells := 0, slots := 0, locals := 22 }
theorem hd_J0_checkIndex_df160 : yJ0_checkIndex_df160.cls = RJ0 ∧ yJ0_checkIndex_df160.cls ≠ "java/lang/invoke/MethodHandle" ∧ yJ0_checkIndex_df160.cls ≠ "java/lang/invoke/VarHandle" ∧ (parseMethodDescriptor yJ0_checkIndex_df160.desc).map (fun d => d.parameters.length) = some 2 := by decide +kernel
set_option maxHeartbeats 4000000 in
set_option maxRecDepth 100000 in
theorem c_J0_checkIndex_df160 (l : Launch) (D : va_G) (cI cZ cT : ClassId) (G : q_G) (A : Nat → Prop) (a0 : Int32) (a1 : Int32) (r : Unit) (h : f_J0_checkIndex_df160 a0 a1 = some r) : Met l yJ0_checkIndex_df160 (wq yJ0_checkIndex_df160 cJ0_checkIndex_df160 2 none) rm_J0_checkIndex_df160 (q_R D (q_tys cI cZ cT) ([]) (q_E G A) [.int a0, .int a1]) (va_Sv (fun _ => True)) 0 0 (fun _ => False) := by
  refine q_RI (cc := cJ0_checkIndex_df160) (maxL := 2) (ret := none) (plainFor_of_name (by decide)) (Nat.le_of_ble_eq_true rfl) (fun p e s m below meth c C0 hP hK hE ls hl => ?_)
  have hE : q_E G A s := hE
  have hS : va_S A s.heap s.heap [] := va_S.rf
  have hl : lv_has ls 2 [(0, .int a0), (1, .int a1)] := hl
  obtain ⟨hx, hb, hr, hml, hown, hts, hlocks⟩ := id C0
  have hF : CallFix p m c cJ0_checkIndex_df160 2 s _ BW RJ0 := ⟨hx, hb, hml, hown, hts⟩
  rw [f_J0_checkIndex_df160] at h
  refine lv_iload_n hx hb dJ0_checkIndex_df160_0 rfl (lv_at hl 0 rfl) ?_
  refine lv_iload_n hx hb dJ0_checkIndex_df160_1 rfl (lv_at hl 1 rfl) ?_
  rcases hE.2.2.2.2.1 with hZ | ⟨z1, hZ⟩
  · refine va_gets (v := .null) hx hb hZ hS hown (hts _ mw_87) (fun _ h9 => h9) dJ0_checkIndex_df160_2 ?_
    obtain ⟨x2, h3, h⟩ := bE h
    refine x_RS (As := [.int a0, .int a1, .null]) (rest := []) hF (c_J3_checkIndex_8e157_N l D cI cZ cT  a0 a1 x2 h3) (va_cwS 3 hts (gqS mw_88 mw_89 mw_90 mw_85) rfl rfl rfl hd_J3_checkIndex_8e157.2 ⟨Nat.le_of_ble_eq_true rfl, Nat.le_of_ble_eq_true rfl⟩) hK hP q_T_bl (fun _ _ _ => trivial) [] rfl rfl hl.1 rfl (Nat.le_of_ble_eq_true rfl) dJ0_checkIndex_df160_5 ⟨Nat.zero_le _, Nat.zero_le _⟩ ?_
    refine lv_pop hx hb dJ0_checkIndex_df160_8 rfl ?_
    exact x_retRv C0 dJ0_checkIndex_df160_9
  · refine va_gets (v := .ref z1) hx hb hZ hS hown (hts _ mw_87) (fun _ h9 => h9) dJ0_checkIndex_df160_2 ?_
    obtain ⟨x2, h3, h⟩ := bE h
    refine x_RS (As := [.int a0, .int a1, .ref z1]) (rest := []) hF (c_J3_checkIndex_8e157_R l D cI cZ cT  z1 a0 a1 x2 h3) (va_cwS 3 hts (gqS mw_88 mw_89 mw_90 mw_85) rfl rfl rfl hd_J3_checkIndex_8e157.2 ⟨Nat.le_of_ble_eq_true rfl, Nat.le_of_ble_eq_true rfl⟩) hK hP q_T_bl (fun _ _ _ => trivial) [] rfl rfl hl.1 rfl (Nat.le_of_ble_eq_true rfl) dJ0_checkIndex_df160_5 ⟨Nat.zero_le _, Nat.zero_le _⟩ ?_
    refine lv_pop hx hb dJ0_checkIndex_df160_8 rfl ?_
    exact x_retRv C0 dJ0_checkIndex_df160_9

/-! java/lang/StringLatin1.charAt ([BI)C -/
def f_J1_charAt_3b067 (i : Nat) (a1 : Int32) : Option (Int32) := ((f_J0_checkIndex_df160 a1 (Int32.ofNat (sLen.getD i 0))).bind fun x1 => ((rd (fun j => (sByt.getD i []).getD j 0) (sLen.getD i 0) a1).bind fun x3 => some (((x3 &&& (255 : Int32)).toUInt32 % 65536).toInt32)))
abbrev rm_J1_charAt_3b067 : Room := { frames := 2, cells := 0, slots := 0, locals := 43 }
theorem hd_J1_charAt_3b067 : yJ1_charAt_3b067.cls = RJ1 ∧ yJ1_charAt_3b067.cls ≠ "java/lang/invoke/MethodHandle" ∧ yJ1_charAt_3b067.cls ≠ "java/lang/invoke/VarHandle" ∧ (parseMethodDescriptor yJ1_charAt_3b067.desc).map (fun d => d.parameters.length) = some 2 := by decide +kernel
set_option maxHeartbeats 4000000 in
set_option maxRecDepth 100000 in
theorem c_J1_charAt_3b067 (l : Launch) (D : va_G) (cI cZ cT : ClassId) (G : q_G) (A : Nat → Prop) (i : Nat) (hi : i < 7) (a1 : Int32) (r : Int32) (h : f_J1_charAt_3b067 i a1 = some r) : Met l yJ1_charAt_3b067 (wq yJ1_charAt_3b067 cJ1_charAt_3b067 2 (some .char)) rm_J1_charAt_3b067 (q_R D (q_tys cI cZ cT) ([]) (q_E G A) [.ref (G.2.1 i), .int a1]) (vp_Si (fun r' => r' = r)) 0 0 (fun _ => False) := by
  refine q_RI (cc := cJ1_charAt_3b067) (maxL := 2) (ret := (some .char)) (plainFor_of_name (by decide)) (Nat.le_of_ble_eq_true rfl) (fun p e s m below meth c C0 hP hK hE ls hl => ?_)
  have hE : q_E G A s := hE
  have hS : va_S A s.heap s.heap [] := va_S.rf
  have hl : lv_has ls 2 [(0, .ref (G.2.1 i)), (1, .int a1)] := hl
  obtain ⟨hx, hb, hr, hml, hown, hts, hlocks⟩ := id C0
  have hF : CallFix p m c cJ1_charAt_3b067 2 s _ BW RJ1 := ⟨hx, hb, hml, hown, hts⟩
  rw [f_J1_charAt_3b067] at h
  refine lv_iload_n hx hb dJ1_charAt_3b067_0 rfl (lv_at hl 1 rfl) ?_
  refine lv_aload_n hx hb dJ1_charAt_3b067_1 rfl (lv_at hl 0 rfl) ?_
  refine va_tlen hx hb (hE.2.1.1 i hi).2.2.2 hS (v := (Int32.ofNat (sLen.getD i 0))) rfl dJ1_charAt_3b067_2 ?_
  obtain ⟨x1, h2, h⟩ := bE h
  refine x_RSv (As := [.int a1, .int (Int32.ofNat (sLen.getD i 0))]) (rest := []) hF (c_J0_checkIndex_df160 l D cI cZ cT G A  a1 (Int32.ofNat (sLen.getD i 0)) x1 h2) (va_cwS 2 hts (gqS mw_92 mw_93 mw_83 mw_86) rfl rfl rfl hd_J0_checkIndex_df160.2 ⟨Nat.le_of_ble_eq_true rfl, Nat.le_of_ble_eq_true rfl⟩) hK hP q_E_bl (q_E_go hE hS (fun _ h9 => h9)) [] rfl rfl hl.1 rfl (Nat.le_of_ble_eq_true rfl) dJ1_charAt_3b067_3 ⟨Nat.zero_le _, Nat.zero_le _⟩ ?_
  refine lv_aload_n hx hb dJ1_charAt_3b067_6 rfl (lv_at hl 0 rfl) ?_
  refine lv_iload_n hx hb dJ1_charAt_3b067_7 rfl (lv_at hl 1 rfl) ?_
  obtain ⟨x3, h4, h⟩ := bE h
  obtain ⟨hix3, ex3⟩ := rd_e h4
  refine va_tb hx hb (hE.2.1.1 i hi).2.2.2 hS hix3 (v := .int x3) (congrArg Value.int ex3) dJ1_charAt_3b067_8 ?_
  refine lv_sipush (v := 255) hx hb dJ1_charAt_3b067_9 (by decide) ?_
  refine lv_iand hx hb dJ1_charAt_3b067_12 ?_
  refine lv_i2c hx hb dJ1_charAt_3b067_13 rfl ?_
  cases h
  exact x_retR C0 (pk_nc _) dJ1_charAt_3b067_14

/-! java/lang/String.charAt (I)C -/
def f_J0_charAt_5068e (i : Nat) (a1 : Int32) : Option (Int32) := ((f_J0_isLatin1_aae02 i).bind fun x1 => (if x1 = 0 then none else ((f_J1_charAt_3b067 i a1).bind fun x4 => ((gn .char x4).bind fun x6 => some x6))))
abbrev rm_J0_charAt_5068e : Room := { frames := 3, cells := 0, slots := 0, locals := 64 }
theorem hd_J0_charAt_5068e : yJ0_charAt_5068e.cls = RJ0 ∧ yJ0_charAt_5068e.cls ≠ "java/lang/invoke/MethodHandle" ∧ yJ0_charAt_5068e.cls ≠ "java/lang/invoke/VarHandle" ∧ (parseMethodDescriptor yJ0_charAt_5068e.desc).map (fun d => d.parameters.length) = some 1 := by decide +kernel
set_option maxHeartbeats 4000000 in
set_option maxRecDepth 100000 in
theorem c_J0_charAt_5068e (l : Launch) (D : va_G) (cI cZ cT : ClassId) (G : q_G) (A : Nat → Prop) (i : Nat) (hi : i < 7) (a1 : Int32) (r : Int32) (h : f_J0_charAt_5068e i a1 = some r) : Met l yJ0_charAt_5068e (wq yJ0_charAt_5068e cJ0_charAt_5068e 2 (some .char)) rm_J0_charAt_5068e (q_R D (q_tys cI cZ cT) ([]) (q_E G A) [.ref (G.1 i), .int a1]) (vp_Si (fun r' => r' = r)) 0 0 (fun _ => False) := by
  refine q_RI (cc := cJ0_charAt_5068e) (maxL := 2) (ret := (some .char)) (plainFor_of_name (by decide)) (Nat.le_of_ble_eq_true rfl) (fun p e s m below meth c C0 hP hK hE ls hl => ?_)
  have hE : q_E G A s := hE
  have hS : va_S A s.heap s.heap [] := va_S.rf
  have hl : lv_has ls 2 [(0, .ref (G.1 i)), (1, .int a1)] := hl
  obtain ⟨hx, hb, hr, hml, hown, hts, hlocks⟩ := id C0
  have hF : CallFix p m c cJ0_charAt_5068e 2 s _ BW RJ0 := ⟨hx, hb, hml, hown, hts⟩
  rw [f_J0_charAt_5068e] at h
  refine lv_aload_n hx hb dJ0_charAt_5068e_0 rfl (lv_at hl 0 rfl) ?_
  obtain ⟨x1, h2, h⟩ := bE h
  refine x_RVs (As := []) (rest := []) hF (c_J0_isLatin1_aae02 l D cI cZ cT G A  i hi  x1 h2) (cwV 0 hts (gqV mw_109 mw_110 mw_111 mw_83 mw_84) rfl rfl rfl hd_J0_isLatin1_aae02 ⟨Nat.le_of_ble_eq_true rfl, Nat.le_of_ble_eq_true rfl⟩) hK hP q_E_bl (q_E_go hE hS (fun _ h9 => h9)) [] rfl (vk_recv hE.2.1 hi hS) rfl hl.1 rfl (Nat.le_of_ble_eq_true rfl) dJ0_charAt_5068e_1 ⟨Nat.zero_le _, Nat.zero_le _⟩ ?_
  refine lv_if_eq (tgt := 16) hx hb dJ0_charAt_5068e_4 (by decide) (fun c3 => ?_) (fun c3 => ?_)
  · have h := xt c3 h
    cases h
  · have h := xf c3 h
    refine lv_aload_n hx hb dJ0_charAt_5068e_7 rfl (lv_at hl 0 rfl) ?_
    refine vk_getf (v := .ref (G.2.1 i)) hx hb (hE.2.1.1 i hi).2.2.1 hS hown (hts _ mw_75) (fun _ h9 => h9) dJ0_charAt_5068e_8 ?_
    refine lv_iload_n hx hb dJ0_charAt_5068e_11 rfl (lv_at hl 1 rfl) ?_
    obtain ⟨x4, h5, h⟩ := bE h
    refine x_RS (As := [.ref (G.2.1 i), .int a1]) (rest := []) hF (c_J1_charAt_3b067 l D cI cZ cT G A  i hi a1 x4 h5) (va_cwS 2 hts (gqS mw_112 mw_113 mw_114 mw_91) rfl rfl rfl hd_J1_charAt_3b067.2 ⟨Nat.le_of_ble_eq_true rfl, Nat.le_of_ble_eq_true rfl⟩) hK hP q_E_bl (q_E_go hE hS (fun _ h9 => h9)) [] rfl rfl hl.1 rfl (Nat.le_of_ble_eq_true rfl) dJ0_charAt_5068e_12 ⟨Nat.zero_le _, Nat.zero_le _⟩ ?_
    obtain ⟨x6, h7, h⟩ := bE h
    obtain ⟨hz, ex6⟩ := gn_e h7
    subst ex6
    cases h
    exact x_retR C0 hz dJ0_charAt_5068e_15

end G_S1

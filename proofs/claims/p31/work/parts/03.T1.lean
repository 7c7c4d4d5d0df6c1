section G_T1
variable {p : Program} {l : Launch} {e : Env} {s : State} {m : MethodId} {args : Array Value} {below : List Frame} {meth : Method} {c : Code} {D : va_G} {cI cZ cT : ClassId}

/-! java/lang/Math.floorMod (II)I -/
def f_J9_floorMod_7cf53 (a0 : Int32) (a1 : Int32) : Option (Int32) := (if a1 = 0 then none else (if 0 ≤ (a0 ^^^ a1) then some (a0 - a0 / a1 * a1) else (if (a0 - a0 / a1 * a1) = 0 then some (a0 - a0 / a1 * a1) else some ((a0 - a0 / a1 * a1) + a1))))
abbrev rm_J9_floorMod_7cf53 : Room := { frames := 0, cells := 0, slots := 0, locals := 0 }
theorem hd_J9_floorMod_7cf53 : yJ9_floorMod_7cf53.cls = RJ9 ∧ yJ9_floorMod_7cf53.cls ≠ "java/lang/invoke/MethodHandle" ∧ yJ9_floorMod_7cf53.cls ≠ "java/lang/invoke/VarHandle" ∧ (parseMethodDescriptor yJ9_floorMod_7cf53.desc).map (fun d => d.parameters.length) = some 2 := by decide +kernel
set_option maxHeartbeats 4000000 in
set_option maxRecDepth 100000 in
theorem c_J9_floorMod_7cf53 (l : Launch) (D : va_G) (cI cZ cT : ClassId) (a0 : Int32) (a1 : Int32) (r : Int32) (h : f_J9_floorMod_7cf53 a0 a1 = some r) : Met l yJ9_floorMod_7cf53 (wq yJ9_floorMod_7cf53 cJ9_floorMod_7cf53 3 (some .int)) rm_J9_floorMod_7cf53 (q_R D (q_tys cI cZ cT) ([]) q_T [.int a0, .int a1]) (vp_Si (fun r' => r' = r)) 0 0 (fun _ => False) := by
  refine q_RI (cc := cJ9_floorMod_7cf53) (maxL := 3) (ret := (some .int)) (by decide +kernel) (Nat.le_of_ble_eq_true rfl) (fun p e s m below meth c C0 hP hK hE ls hl => ?_)
  have hl : lv_has ls 3 [(0, .int a0), (1, .int a1)] := hl
  obtain ⟨hx, hb, hr, hml, hown, hts, hlocks⟩ := id C0
  have hF : CallFix p m c cJ9_floorMod_7cf53 3 s _ BW RJ9 := ⟨hx, hb, hml, hown, hts⟩
  rw [f_J9_floorMod_7cf53] at h
  refine lv_iload_n hx hb dJ9_floorMod_7cf53_0 rfl (lv_at hl 0 rfl) ?_
  refine lv_iload_n hx hb dJ9_floorMod_7cf53_1 rfl (lv_at hl 1 rfl) ?_
  by_cases c1 : a1 = 0
  · have h := xt c1 h
    cases h
  have h := xf c1 h
  refine lv_irem hx hb dJ9_floorMod_7cf53_2 c1 ?_
  refine lv_istore_n (lv' := [(2, .int (a0 - a0 / a1 * a1)), (0, .int a0), (1, .int a1)]) hx hb dJ9_floorMod_7cf53_3 rfl hl (by decide) rfl (fun ls hl => ?_)
  refine lv_iload_n hx hb dJ9_floorMod_7cf53_4 rfl (lv_at hl 1 rfl) ?_
  refine lv_iload_n hx hb dJ9_floorMod_7cf53_5 rfl (lv_at hl 2 rfl) ?_
  refine lv_ixor hx hb dJ9_floorMod_7cf53_6 ?_
  refine lv_if_ge (tgt := 18) hx hb dJ9_floorMod_7cf53_7 (by decide) (fun c2 => ?_) (fun c2 => ?_)
  · have h := xt c2 h
    refine lv_iload_n hx hb dJ9_floorMod_7cf53_18 rfl (lv_at hl 0 rfl) ?_
    cases h
    exact x_retR C0 rfl dJ9_floorMod_7cf53_19
  · have h := xf c2 h
    refine lv_iload_n hx hb dJ9_floorMod_7cf53_10 rfl (lv_at hl 0 rfl) ?_
    refine lv_if_eq (tgt := 18) hx hb dJ9_floorMod_7cf53_11 (by decide) (fun c3 => ?_) (fun c3 => ?_)
    · have h := xt c3 h
      refine lv_iload_n hx hb dJ9_floorMod_7cf53_18 rfl (lv_at hl 0 rfl) ?_
      cases h
      exact x_retR C0 rfl dJ9_floorMod_7cf53_19
    · have h := xf c3 h
      refine lv_iload_n hx hb dJ9_floorMod_7cf53_14 rfl (lv_at hl 0 rfl) ?_
      refine lv_iload_n hx hb dJ9_floorMod_7cf53_15 rfl (lv_at hl 2 rfl) ?_
      refine lv_iadd hx hb dJ9_floorMod_7cf53_16 ?_
      cases h
      exact x_retR C0 rfl dJ9_floorMod_7cf53_17

/-! java/lang/Integer.bitCount (I)I -/
def f_J6_bitCount_0f7a4 (a0 : Int32) : Option (Int32) := some ((((((((a0 - ((a0.toUInt32 >>> ((1 : Int32).toUInt32 &&& Int32.toUInt32 31)).toInt32 &&& (1431655765 : Int32))) &&& (858993459 : Int32)) + (((a0 - ((a0.toUInt32 >>> ((1 : Int32).toUInt32 &&& Int32.toUInt32 31)).toInt32 &&& (1431655765 : Int32))).toUInt32 >>> ((2 : Int32).toUInt32 &&& Int32.toUInt32 31)).toInt32 &&& (858993459 : Int32))) + ((((a0 - ((a0.toUInt32 >>> ((1 : Int32).toUInt32 &&& Int32.toUInt32 31)).toInt32 &&& (1431655765 : Int32))) &&& (858993459 : Int32)) + (((a0 - ((a0.toUInt32 >>> ((1 : Int32).toUInt32 &&& Int32.toUInt32 31)).toInt32 &&& (1431655765 : Int32))).toUInt32 >>> ((2 : Int32).toUInt32 &&& Int32.toUInt32 31)).toInt32 &&& (858993459 : Int32))).toUInt32 >>> ((4 : Int32).toUInt32 &&& Int32.toUInt32 31)).toInt32) &&& (252645135 : Int32)) + ((((((a0 - ((a0.toUInt32 >>> ((1 : Int32).toUInt32 &&& Int32.toUInt32 31)).toInt32 &&& (1431655765 : Int32))) &&& (858993459 : Int32)) + (((a0 - ((a0.toUInt32 >>> ((1 : Int32).toUInt32 &&& Int32.toUInt32 31)).toInt32 &&& (1431655765 : Int32))).toUInt32 >>> ((2 : Int32).toUInt32 &&& Int32.toUInt32 31)).toInt32 &&& (858993459 : Int32))) + ((((a0 - ((a0.toUInt32 >>> ((1 : Int32).toUInt32 &&& Int32.toUInt32 31)).toInt32 &&& (1431655765 : Int32))) &&& (858993459 : Int32)) + (((a0 - ((a0.toUInt32 >>> ((1 : Int32).toUInt32 &&& Int32.toUInt32 31)).toInt32 &&& (1431655765 : Int32))).toUInt32 >>> ((2 : Int32).toUInt32 &&& Int32.toUInt32 31)).toInt32 &&& (858993459 : Int32))).toUInt32 >>> ((4 : Int32).toUInt32 &&& Int32.toUInt32 31)).toInt32) &&& (252645135 : Int32)).toUInt32 >>> ((8 : Int32).toUInt32 &&& Int32.toUInt32 31)).toInt32) + (((((((a0 - ((a0.toUInt32 >>> ((1 : Int32).toUInt32 &&& Int32.toUInt32 31)).toInt32 &&& (1431655765 : Int32))) &&& (858993459 : Int32)) + (((a0 - ((a0.toUInt32 >>> ((1 : Int32).toUInt32 &&& Int32.toUInt32 31)).toInt32 &&& (1431655765 : Int32))).toUInt32 >>> ((2 : Int32).toUInt32 &&& Int32.toUInt32 31)).toInt32 &&& (858993459 : Int32))) + ((((a0 - ((a0.toUInt32 >>> ((1 : Int32).toUInt32 &&& Int32.toUInt32 31)).toInt32 &&& (1431655765 : Int32))) &&& (858993459 : Int32)) + (((a0 - ((a0.toUInt32 >>> ((1 : Int32).toUInt32 &&& Int32.toUInt32 31)).toInt32 &&& (1431655765 : Int32))).toUInt32 >>> ((2 : Int32).toUInt32 &&& Int32.toUInt32 31)).toInt32 &&& (858993459 : Int32))).toUInt32 >>> ((4 : Int32).toUInt32 &&& Int32.toUInt32 31)).toInt32) &&& (252645135 : Int32)) + ((((((a0 - ((a0.toUInt32 >>> ((1 : Int32).toUInt32 &&& Int32.toUInt32 31)).toInt32 &&& (1431655765 : Int32))) &&& (858993459 : Int32)) + (((a0 - ((a0.toUInt32 >>> ((1 : Int32).toUInt32 &&& Int32.toUInt32 31)).toInt32 &&& (1431655765 : Int32))).toUInt32 >>> ((2 : Int32).toUInt32 &&& Int32.toUInt32 31)).toInt32 &&& (858993459 : Int32))) + ((((a0 - ((a0.toUInt32 >>> ((1 : Int32).toUInt32 &&& Int32.toUInt32 31)).toInt32 &&& (1431655765 : Int32))) &&& (858993459 : Int32)) + (((a0 - ((a0.toUInt32 >>> ((1 : Int32).toUInt32 &&& Int32.toUInt32 31)).toInt32 &&& (1431655765 : Int32))).toUInt32 >>> ((2 : Int32).toUInt32 &&& Int32.toUInt32 31)).toInt32 &&& (858993459 : Int32))).toUInt32 >>> ((4 : Int32).toUInt32 &&& Int32.toUInt32 31)).toInt32) &&& (252645135 : Int32)).toUInt32 >>> ((8 : Int32).toUInt32 &&& Int32.toUInt32 31)).toInt32).toUInt32 >>> ((16 : Int32).toUInt32 &&& Int32.toUInt32 31)).toInt32) &&& (63 : Int32))
abbrev rm_J6_bitCount_0f7a4 : Room := { frames := 0, cells := 0, slots := 0, locals := 0 }
theorem hd_J6_bitCount_0f7a4 : yJ6_bitCount_0f7a4.cls = RJ6 ∧ yJ6_bitCount_0f7a4.cls ≠ "java/lang/invoke/MethodHandle" ∧ yJ6_bitCount_0f7a4.cls ≠ "java/lang/invoke/VarHandle" ∧ (parseMethodDescriptor yJ6_bitCount_0f7a4.desc).map (fun d => d.parameters.length) = some 1 := by decide +kernel
set_option maxHeartbeats 4000000 in
set_option maxRecDepth 100000 in
theorem c_J6_bitCount_0f7a4 (l : Launch) (D : va_G) (cI cZ cT : ClassId) (a0 : Int32) (r : Int32) (h : f_J6_bitCount_0f7a4 a0 = some r) : Met l yJ6_bitCount_0f7a4 (wq yJ6_bitCount_0f7a4 cJ6_bitCount_0f7a4 1 (some .int)) rm_J6_bitCount_0f7a4 (q_R D (q_tys cI cZ cT) ([]) q_T [.int a0]) (vp_Si (fun r' => r' = r)) 0 0 (fun _ => False) := by
  refine q_RI (cc := cJ6_bitCount_0f7a4) (maxL := 1) (ret := (some .int)) (plainFor_of_name (by decide)) (Nat.le_of_ble_eq_true rfl) (fun p e s m below meth c C0 hP hK hE ls hl => ?_)
  have hl : lv_has ls 1 [(0, .int a0)] := hl
  obtain ⟨hx, hb, hr, hml, hown, hts, hlocks⟩ := id C0
  have hF : CallFix p m c cJ6_bitCount_0f7a4 1 s _ BW RJ6 := ⟨hx, hb, hml, hown, hts⟩
  rw [f_J6_bitCount_0f7a4] at h
  refine lv_iload_n hx hb dJ6_bitCount_0f7a4_0 rfl (lv_at hl 0 rfl) ?_
  refine lv_iload_n hx hb dJ6_bitCount_0f7a4_1 rfl (lv_at hl 0 rfl) ?_
  refine lv_iconst (v := 1) hx hb dJ6_bitCount_0f7a4_2 (by decide) ?_
  refine lv_iushr hx hb dJ6_bitCount_0f7a4_3 rfl ?_
  refine lv_ldcw (v := (1431655765 : Int32)) hx hb hown (hts _ mw_256) dJ6_bitCount_0f7a4_4 ?_
  refine lv_iand hx hb dJ6_bitCount_0f7a4_7 ?_
  refine lv_isub hx hb dJ6_bitCount_0f7a4_8 ?_
  refine lv_istore_n (lv' := [(0, .int (a0 - ((a0.toUInt32 >>> ((1 : Int32).toUInt32 &&& Int32.toUInt32 31)).toInt32 &&& (1431655765 : Int32))))]) hx hb dJ6_bitCount_0f7a4_9 rfl hl (by decide) rfl (fun ls hl => ?_)
  refine lv_iload_n hx hb dJ6_bitCount_0f7a4_10 rfl (lv_at hl 0 rfl) ?_
  refine lv_ldcw (v := (858993459 : Int32)) hx hb hown (hts _ mw_257) dJ6_bitCount_0f7a4_11 ?_
  refine lv_iand hx hb dJ6_bitCount_0f7a4_14 ?_
  refine lv_iload_n hx hb dJ6_bitCount_0f7a4_15 rfl (lv_at hl 0 rfl) ?_
  refine lv_iconst (v := 2) hx hb dJ6_bitCount_0f7a4_16 (by decide) ?_
  refine lv_iushr hx hb dJ6_bitCount_0f7a4_17 rfl ?_
  refine lv_ldcw (v := (858993459 : Int32)) hx hb hown (hts _ mw_257) dJ6_bitCount_0f7a4_18 ?_
  refine lv_iand hx hb dJ6_bitCount_0f7a4_21 ?_
  refine lv_iadd hx hb dJ6_bitCount_0f7a4_22 ?_
  refine lv_istore_n (lv' := [(0, .int (((a0 - ((a0.toUInt32 >>> ((1 : Int32).toUInt32 &&& Int32.toUInt32 31)).toInt32 &&& (1431655765 : Int32))) &&& (858993459 : Int32)) + (((a0 - ((a0.toUInt32 >>> ((1 : Int32).toUInt32 &&& Int32.toUInt32 31)).toInt32 &&& (1431655765 : Int32))).toUInt32 >>> ((2 : Int32).toUInt32 &&& Int32.toUInt32 31)).toInt32 &&& (858993459 : Int32))))]) hx hb dJ6_bitCount_0f7a4_23 rfl hl (by decide) rfl (fun ls hl => ?_)
  refine lv_iload_n hx hb dJ6_bitCount_0f7a4_24 rfl (lv_at hl 0 rfl) ?_
  refine lv_iload_n hx hb dJ6_bitCount_0f7a4_25 rfl (lv_at hl 0 rfl) ?_
  refine lv_iconst (v := 4) hx hb dJ6_bitCount_0f7a4_26 (by decide) ?_
  refine lv_iushr hx hb dJ6_bitCount_0f7a4_27 rfl ?_
  refine lv_iadd hx hb dJ6_bitCount_0f7a4_28 ?_
  refine lv_ldcw (v := (252645135 : Int32)) hx hb hown (hts _ mw_258) dJ6_bitCount_0f7a4_29 ?_
  refine lv_iand hx hb dJ6_bitCount_0f7a4_32 ?_
  refine lv_istore_n (lv' := [(0, .int (((((a0 - ((a0.toUInt32 >>> ((1 : Int32).toUInt32 &&& Int32.toUInt32 31)).toInt32 &&& (1431655765 : Int32))) &&& (858993459 : Int32)) + (((a0 - ((a0.toUInt32 >>> ((1 : Int32).toUInt32 &&& Int32.toUInt32 31)).toInt32 &&& (1431655765 : Int32))).toUInt32 >>> ((2 : Int32).toUInt32 &&& Int32.toUInt32 31)).toInt32 &&& (858993459 : Int32))) + ((((a0 - ((a0.toUInt32 >>> ((1 : Int32).toUInt32 &&& Int32.toUInt32 31)).toInt32 &&& (1431655765 : Int32))) &&& (858993459 : Int32)) + (((a0 - ((a0.toUInt32 >>> ((1 : Int32).toUInt32 &&& Int32.toUInt32 31)).toInt32 &&& (1431655765 : Int32))).toUInt32 >>> ((2 : Int32).toUInt32 &&& Int32.toUInt32 31)).toInt32 &&& (858993459 : Int32))).toUInt32 >>> ((4 : Int32).toUInt32 &&& Int32.toUInt32 31)).toInt32) &&& (252645135 : Int32)))]) hx hb dJ6_bitCount_0f7a4_33 rfl hl (by decide) rfl (fun ls hl => ?_)
  refine lv_iload_n hx hb dJ6_bitCount_0f7a4_34 rfl (lv_at hl 0 rfl) ?_
  refine lv_iload_n hx hb dJ6_bitCount_0f7a4_35 rfl (lv_at hl 0 rfl) ?_
  refine lv_bipush (v := 8) hx hb dJ6_bitCount_0f7a4_36 (by decide) ?_
  refine lv_iushr hx hb dJ6_bitCount_0f7a4_38 rfl ?_
  refine lv_iadd hx hb dJ6_bitCount_0f7a4_39 ?_
  refine lv_istore_n (lv' := [(0, .int ((((((a0 - ((a0.toUInt32 >>> ((1 : Int32).toUInt32 &&& Int32.toUInt32 31)).toInt32 &&& (1431655765 : Int32))) &&& (858993459 : Int32)) + (((a0 - ((a0.toUInt32 >>> ((1 : Int32).toUInt32 &&& Int32.toUInt32 31)).toInt32 &&& (1431655765 : Int32))).toUInt32 >>> ((2 : Int32).toUInt32 &&& Int32.toUInt32 31)).toInt32 &&& (858993459 : Int32))) + ((((a0 - ((a0.toUInt32 >>> ((1 : Int32).toUInt32 &&& Int32.toUInt32 31)).toInt32 &&& (1431655765 : Int32))) &&& (858993459 : Int32)) + (((a0 - ((a0.toUInt32 >>> ((1 : Int32).toUInt32 &&& Int32.toUInt32 31)).toInt32 &&& (1431655765 : Int32))).toUInt32 >>> ((2 : Int32).toUInt32 &&& Int32.toUInt32 31)).toInt32 &&& (858993459 : Int32))).toUInt32 >>> ((4 : Int32).toUInt32 &&& Int32.toUInt32 31)).toInt32) &&& (252645135 : Int32)) + ((((((a0 - ((a0.toUInt32 >>> ((1 : Int32).toUInt32 &&& Int32.toUInt32 31)).toInt32 &&& (1431655765 : Int32))) &&& (858993459 : Int32)) + (((a0 - ((a0.toUInt32 >>> ((1 : Int32).toUInt32 &&& Int32.toUInt32 31)).toInt32 &&& (1431655765 : Int32))).toUInt32 >>> ((2 : Int32).toUInt32 &&& Int32.toUInt32 31)).toInt32 &&& (858993459 : Int32))) + ((((a0 - ((a0.toUInt32 >>> ((1 : Int32).toUInt32 &&& Int32.toUInt32 31)).toInt32 &&& (1431655765 : Int32))) &&& (858993459 : Int32)) + (((a0 - ((a0.toUInt32 >>> ((1 : Int32).toUInt32 &&& Int32.toUInt32 31)).toInt32 &&& (1431655765 : Int32))).toUInt32 >>> ((2 : Int32).toUInt32 &&& Int32.toUInt32 31)).toInt32 &&& (858993459 : Int32))).toUInt32 >>> ((4 : Int32).toUInt32 &&& Int32.toUInt32 31)).toInt32) &&& (252645135 : Int32)).toUInt32 >>> ((8 : Int32).toUInt32 &&& Int32.toUInt32 31)).toInt32))]) hx hb dJ6_bitCount_0f7a4_40 rfl hl (by decide) rfl (fun ls hl => ?_)
  refine lv_iload_n hx hb dJ6_bitCount_0f7a4_41 rfl (lv_at hl 0 rfl) ?_
  refine lv_iload_n hx hb dJ6_bitCount_0f7a4_42 rfl (lv_at hl 0 rfl) ?_
  refine lv_bipush (v := 16) hx hb dJ6_bitCount_0f7a4_43 (by decide) ?_
  refine lv_iushr hx hb dJ6_bitCount_0f7a4_45 rfl ?_
  refine lv_iadd hx hb dJ6_bitCount_0f7a4_46 ?_
  refine lv_istore_n (lv' := [(0, .int (((((((a0 - ((a0.toUInt32 >>> ((1 : Int32).toUInt32 &&& Int32.toUInt32 31)).toInt32 &&& (1431655765 : Int32))) &&& (858993459 : Int32)) + (((a0 - ((a0.toUInt32 >>> ((1 : Int32).toUInt32 &&& Int32.toUInt32 31)).toInt32 &&& (1431655765 : Int32))).toUInt32 >>> ((2 : Int32).toUInt32 &&& Int32.toUInt32 31)).toInt32 &&& (858993459 : Int32))) + ((((a0 - ((a0.toUInt32 >>> ((1 : Int32).toUInt32 &&& Int32.toUInt32 31)).toInt32 &&& (1431655765 : Int32))) &&& (858993459 : Int32)) + (((a0 - ((a0.toUInt32 >>> ((1 : Int32).toUInt32 &&& Int32.toUInt32 31)).toInt32 &&& (1431655765 : Int32))).toUInt32 >>> ((2 : Int32).toUInt32 &&& Int32.toUInt32 31)).toInt32 &&& (858993459 : Int32))).toUInt32 >>> ((4 : Int32).toUInt32 &&& Int32.toUInt32 31)).toInt32) &&& (252645135 : Int32)) + ((((((a0 - ((a0.toUInt32 >>> ((1 : Int32).toUInt32 &&& Int32.toUInt32 31)).toInt32 &&& (1431655765 : Int32))) &&& (858993459 : Int32)) + (((a0 - ((a0.toUInt32 >>> ((1 : Int32).toUInt32 &&& Int32.toUInt32 31)).toInt32 &&& (1431655765 : Int32))).toUInt32 >>> ((2 : Int32).toUInt32 &&& Int32.toUInt32 31)).toInt32 &&& (858993459 : Int32))) + ((((a0 - ((a0.toUInt32 >>> ((1 : Int32).toUInt32 &&& Int32.toUInt32 31)).toInt32 &&& (1431655765 : Int32))) &&& (858993459 : Int32)) + (((a0 - ((a0.toUInt32 >>> ((1 : Int32).toUInt32 &&& Int32.toUInt32 31)).toInt32 &&& (1431655765 : Int32))).toUInt32 >>> ((2 : Int32).toUInt32 &&& Int32.toUInt32 31)).toInt32 &&& (858993459 : Int32))).toUInt32 >>> ((4 : Int32).toUInt32 &&& Int32.toUInt32 31)).toInt32) &&& (252645135 : Int32)).toUInt32 >>> ((8 : Int32).toUInt32 &&& Int32.toUInt32 31)).toInt32) + (((((((a0 - ((a0.toUInt32 >>> ((1 : Int32).toUInt32 &&& Int32.toUInt32 31)).toInt32 &&& (1431655765 : Int32))) &&& (858993459 : Int32)) + (((a0 - ((a0.toUInt32 >>> ((1 : Int32).toUInt32 &&& Int32.toUInt32 31)).toInt32 &&& (1431655765 : Int32))).toUInt32 >>> ((2 : Int32).toUInt32 &&& Int32.toUInt32 31)).toInt32 &&& (858993459 : Int32))) + ((((a0 - ((a0.toUInt32 >>> ((1 : Int32).toUInt32 &&& Int32.toUInt32 31)).toInt32 &&& (1431655765 : Int32))) &&& (858993459 : Int32)) + (((a0 - ((a0.toUInt32 >>> ((1 : Int32).toUInt32 &&& Int32.toUInt32 31)).toInt32 &&& (1431655765 : Int32))).toUInt32 >>> ((2 : Int32).toUInt32 &&& Int32.toUInt32 31)).toInt32 &&& (858993459 : Int32))).toUInt32 >>> ((4 : Int32).toUInt32 &&& Int32.toUInt32 31)).toInt32) &&& (252645135 : Int32)) + ((((((a0 - ((a0.toUInt32 >>> ((1 : Int32).toUInt32 &&& Int32.toUInt32 31)).toInt32 &&& (1431655765 : Int32))) &&& (858993459 : Int32)) + (((a0 - ((a0.toUInt32 >>> ((1 : Int32).toUInt32 &&& Int32.toUInt32 31)).toInt32 &&& (1431655765 : Int32))).toUInt32 >>> ((2 : Int32).toUInt32 &&& Int32.toUInt32 31)).toInt32 &&& (858993459 : Int32))) + ((((a0 - ((a0.toUInt32 >>> ((1 : Int32).toUInt32 &&& Int32.toUInt32 31)).toInt32 &&& (1431655765 : Int32))) &&& (858993459 : Int32)) + (((a0 - ((a0.toUInt32 >>> ((1 : Int32).toUInt32 &&& Int32.toUInt32 31)).toInt32 &&& (1431655765 : Int32))).toUInt32 >>> ((2 : Int32).toUInt32 &&& Int32.toUInt32 31)).toInt32 &&& (858993459 : Int32))).toUInt32 >>> ((4 : Int32).toUInt32 &&& Int32.toUInt32 31)).toInt32) &&& (252645135 : Int32)).toUInt32 >>> ((8 : Int32).toUInt32 &&& Int32.toUInt32 31)).toInt32).toUInt32 >>> ((16 : Int32).toUInt32 &&& Int32.toUInt32 31)).toInt32))]) hx hb dJ6_bitCount_0f7a4_47 rfl hl (by decide) rfl (fun ls hl => ?_)
  refine lv_iload_n hx hb dJ6_bitCount_0f7a4_48 rfl (lv_at hl 0 rfl) ?_
  refine lv_bipush (v := 63) hx hb dJ6_bitCount_0f7a4_49 (by decide) ?_
  refine lv_iand hx hb dJ6_bitCount_0f7a4_51 ?_
  cases h
  exact x_retR C0 rfl dJ6_bitCount_0f7a4_52

/-! QuarrelWays.Town.read (II)I -/
def f_X2_read (t : TT) (a1 : Int32) (a2 : Int32) : Option (Int32) := (if (a1 + a2) < 0 then some (0 : Int32) else (if (176 : Int32) ≤ (a1 + a2) then some (0 : Int32) else ((rd t.2.2.2.2.2 176 (a1 + a2)).bind fun x3 => some x3)))
abbrev rm_X2_read : Room := { frames := 0, cells := 0, slots := 0, locals := 0 }
theorem hd_X2_read : yX2_read.cls = RX2 ∧ yX2_read.cls ≠ "java/lang/invoke/MethodHandle" ∧ yX2_read.cls ≠ "java/lang/invoke/VarHandle" ∧ (parseMethodDescriptor yX2_read.desc).map (fun d => d.parameters.length) = some 2 := by decide +kernel
set_option maxHeartbeats 4000000 in
set_option maxRecDepth 100000 in
theorem c_X2_read (l : Launch) (D : va_G) (cI cZ cT : ClassId) (o a : Nat) (t : TT) (a1 : Int32) (a2 : Int32) (r : Int32) (h : f_X2_read t a1 a2 = some r) : Met l yX2_read (wq yX2_read cX2_read 4 (some .int)) rm_X2_read (q_R D (q_tys cI cZ cT) (wT cI o a t) q_T [.ref o, .int a1, .int a2]) (vp_Si (fun r' => r' = r)) 0 0 (fun _ => False) := by
  refine q_RI (cc := cX2_read) (maxL := 4) (ret := (some .int)) (plainFor_of_name (by decide)) (Nat.le_of_ble_eq_true rfl) (fun p e s m below meth c C0 hP hK hE ls hl => ?_)
  have hl : lv_has ls 4 [(0, .ref o), (1, .int a1), (2, .int a2)] := hl
  obtain ⟨hx, hb, hr, hml, hown, hts, hlocks⟩ := id C0
  have hF : CallFix p m c cX2_read 4 s _ BW RX2 := ⟨hx, hb, hml, hown, hts⟩
  rw [f_X2_read] at h
  refine lv_iload_n hx hb dX2_read_0 rfl (lv_at hl 1 rfl) ?_
  refine lv_iload_n hx hb dX2_read_1 rfl (lv_at hl 2 rfl) ?_
  refine lv_iadd hx hb dX2_read_2 ?_
  refine lv_istore_n (lv' := [(3, .int (a1 + a2)), (0, .ref o), (1, .int a1), (2, .int a2)]) hx hb dX2_read_3 rfl hl (by decide) rfl (fun ls hl => ?_)
  refine lv_iload_n hx hb dX2_read_4 rfl (lv_at hl 0 rfl) ?_
  refine lv_if_lt (tgt := 26) hx hb dX2_read_5 (by decide) (fun c1 => ?_) (fun c1 => ?_)
  · have h := xt c1 h
    refine lv_iconst (v := 0) hx hb dX2_read_26 (by decide) ?_
    cases h
    exact x_retR C0 rfl dX2_read_27
  · have h := xf c1 h
    refine lv_iload_n hx hb dX2_read_8 rfl (lv_at hl 0 rfl) ?_
    refine lv_aload_n hx hb dX2_read_9 rfl (lv_at hl 1 rfl) ?_
    refine va_get (D := D) (v := .ref a) (C := RX2) (T := TX2) (N := 6) hx hb hts iw_X2 hown hK hP 0 rfl rfl 5 (by decide) (hts _ mw_1) (fun _ h9 => h9) rfl dX2_read_10 ?_
    refine va_alen hx hb hK hP 1 0 rfl rfl (v := 176) rfl dX2_read_13 ?_
    refine lv_icmp_ge (tgt := 26) hx hb dX2_read_14 (by decide) (fun c2 => ?_) (fun c2 => ?_)
    · have h := xt c2 h
      refine lv_iconst (v := 0) hx hb dX2_read_26 (by decide) ?_
      cases h
      exact x_retR C0 rfl dX2_read_27
    · have h := xf c2 h
      refine lv_aload_n hx hb dX2_read_17 rfl (lv_at hl 1 rfl) ?_
      refine va_get (D := D) (v := .ref a) (C := RX2) (T := TX2) (N := 6) hx hb hts iw_X2 hown hK hP 0 rfl rfl 5 (by decide) (hts _ mw_1) (fun _ h9 => h9) rfl dX2_read_18 ?_
      refine lv_iload_n hx hb dX2_read_21 rfl (lv_at hl 0 rfl) ?_
      obtain ⟨x3, h4, h⟩ := bE h
      refine x_iald (cA := cI) hx hb hK hP 1 0 rfl rfl h4 dX2_read_22 ?_
      refine lv_goto (tgt := 27) hx hb dX2_read_23 (by decide) ?_
      cases h
      exact x_retR C0 rfl dX2_read_27

/-! QuarrelWays.Town.hasPerson (I)Z -/
def f_X2_hasPerson (t : TT) (a1 : Int32) : Option (Int32) := (if a1 < 0 then some (0 : Int32) else (if t.2.2.1 ≤ a1 then some (0 : Int32) else some (1 : Int32)))
abbrev rm_X2_hasPerson : Room := { frames := 0, cells := 0, slots := 0, locals := 0 }
theorem hd_X2_hasPerson : yX2_hasPerson.cls = RX2 ∧ yX2_hasPerson.cls ≠ "java/lang/invoke/MethodHandle" ∧ yX2_hasPerson.cls ≠ "java/lang/invoke/VarHandle" ∧ (parseMethodDescriptor yX2_hasPerson.desc).map (fun d => d.parameters.length) = some 1 := by decide +kernel
set_option maxHeartbeats 4000000 in
set_option maxRecDepth 100000 in
theorem c_X2_hasPerson (l : Launch) (D : va_G) (cI cZ cT : ClassId) (o a : Nat) (t : TT) (a1 : Int32) (r : Int32) (h : f_X2_hasPerson t a1 = some r) : Met l yX2_hasPerson (wq yX2_hasPerson cX2_hasPerson 2 (some .boolean)) rm_X2_hasPerson (q_R D (q_tys cI cZ cT) (wT cI o a t) q_T [.ref o, .int a1]) (vp_Si (fun r' => r' = r)) 0 0 (fun _ => False) := by
  refine q_RI (cc := cX2_hasPerson) (maxL := 2) (ret := (some .boolean)) (plainFor_of_name (by decide)) (Nat.le_of_ble_eq_true rfl) (fun p e s m below meth c C0 hP hK hE ls hl => ?_)
  have hl : lv_has ls 2 [(0, .ref o), (1, .int a1)] := hl
  obtain ⟨hx, hb, hr, hml, hown, hts, hlocks⟩ := id C0
  have hF : CallFix p m c cX2_hasPerson 2 s _ BW RX2 := ⟨hx, hb, hml, hown, hts⟩
  rw [f_X2_hasPerson] at h
  refine lv_iload_n hx hb dX2_hasPerson_0 rfl (lv_at hl 1 rfl) ?_
  refine lv_if_lt (tgt := 16) hx hb dX2_hasPerson_1 (by decide) (fun c1 => ?_) (fun c1 => ?_)
  · have h := xt c1 h
    refine lv_iconst (v := 0) hx hb dX2_hasPerson_16 (by decide) ?_
    cases h
    exact x_retR C0 rfl dX2_hasPerson_17
  · have h := xf c1 h
    refine lv_iload_n hx hb dX2_hasPerson_4 rfl (lv_at hl 1 rfl) ?_
    refine lv_aload_n hx hb dX2_hasPerson_5 rfl (lv_at hl 0 rfl) ?_
    refine va_get (D := D) (v := .int t.2.2.1) (C := RX2) (T := TX2) (N := 6) hx hb hts iw_X2 hown hK hP 0 rfl rfl 2 (by decide) (hts _ mw_8) (fun _ h9 => h9) rfl dX2_hasPerson_6 ?_
    refine lv_icmp_ge (tgt := 16) hx hb dX2_hasPerson_9 (by decide) (fun c2 => ?_) (fun c2 => ?_)
    · have h := xt c2 h
      refine lv_iconst (v := 0) hx hb dX2_hasPerson_16 (by decide) ?_
      cases h
      exact x_retR C0 rfl dX2_hasPerson_17
    · have h := xf c2 h
      refine lv_iconst (v := 1) hx hb dX2_hasPerson_12 (by decide) ?_
      refine lv_goto (tgt := 17) hx hb dX2_hasPerson_13 (by decide) ?_
      cases h
      exact x_retR C0 rfl dX2_hasPerson_17

/-! QuarrelWays.Town.hasQuarrel (I)Z -/
def f_X2_hasQuarrel (t : TT) (a1 : Int32) : Option (Int32) := (if a1 < 0 then some (0 : Int32) else (if t.2.2.2.1 ≤ a1 then some (0 : Int32) else some (1 : Int32)))
abbrev rm_X2_hasQuarrel : Room := { frames := 0, cells := 0, slots := 0, locals := 0 }
theorem hd_X2_hasQuarrel : yX2_hasQuarrel.cls = RX2 ∧ yX2_hasQuarrel.cls ≠ "java/lang/invoke/MethodHandle" ∧ yX2_hasQuarrel.cls ≠ "java/lang/invoke/VarHandle" ∧ (parseMethodDescriptor yX2_hasQuarrel.desc).map (fun d => d.parameters.length) = some 1 := by decide +kernel
set_option maxHeartbeats 4000000 in
set_option maxRecDepth 100000 in
theorem c_X2_hasQuarrel (l : Launch) (D : va_G) (cI cZ cT : ClassId) (o a : Nat) (t : TT) (a1 : Int32) (r : Int32) (h : f_X2_hasQuarrel t a1 = some r) : Met l yX2_hasQuarrel (wq yX2_hasQuarrel cX2_hasQuarrel 2 (some .boolean)) rm_X2_hasQuarrel (q_R D (q_tys cI cZ cT) (wT cI o a t) q_T [.ref o, .int a1]) (vp_Si (fun r' => r' = r)) 0 0 (fun _ => False) := by
  refine q_RI (cc := cX2_hasQuarrel) (maxL := 2) (ret := (some .boolean)) (plainFor_of_name (by decide)) (Nat.le_of_ble_eq_true rfl) (fun p e s m below meth c C0 hP hK hE ls hl => ?_)
  have hl : lv_has ls 2 [(0, .ref o), (1, .int a1)] := hl
  obtain ⟨hx, hb, hr, hml, hown, hts, hlocks⟩ := id C0
  have hF : CallFix p m c cX2_hasQuarrel 2 s _ BW RX2 := ⟨hx, hb, hml, hown, hts⟩
  rw [f_X2_hasQuarrel] at h
  refine lv_iload_n hx hb dX2_hasQuarrel_0 rfl (lv_at hl 1 rfl) ?_
  refine lv_if_lt (tgt := 16) hx hb dX2_hasQuarrel_1 (by decide) (fun c1 => ?_) (fun c1 => ?_)
  · have h := xt c1 h
    refine lv_iconst (v := 0) hx hb dX2_hasQuarrel_16 (by decide) ?_
    cases h
    exact x_retR C0 rfl dX2_hasQuarrel_17
  · have h := xf c1 h
    refine lv_iload_n hx hb dX2_hasQuarrel_4 rfl (lv_at hl 1 rfl) ?_
    refine lv_aload_n hx hb dX2_hasQuarrel_5 rfl (lv_at hl 0 rfl) ?_
    refine va_get (D := D) (v := .int t.2.2.2.1) (C := RX2) (T := TX2) (N := 6) hx hb hts iw_X2 hown hK hP 0 rfl rfl 3 (by decide) (hts _ mw_9) (fun _ h9 => h9) rfl dX2_hasQuarrel_6 ?_
    refine lv_icmp_ge (tgt := 16) hx hb dX2_hasQuarrel_9 (by decide) (fun c2 => ?_) (fun c2 => ?_)
    · have h := xt c2 h
      refine lv_iconst (v := 0) hx hb dX2_hasQuarrel_16 (by decide) ?_
      cases h
      exact x_retR C0 rfl dX2_hasQuarrel_17
    · have h := xf c2 h
      refine lv_iconst (v := 1) hx hb dX2_hasQuarrel_12 (by decide) ?_
      refine lv_goto (tgt := 17) hx hb dX2_hasQuarrel_13 (by decide) ?_
      cases h
      exact x_retR C0 rfl dX2_hasQuarrel_17

/-! QuarrelWays.Town.isPoints (I)Z -/
def f_X2_isPoints (a0 : Int32) : Option (Int32) := (if a0 < 0 then some (0 : Int32) else (if (9 : Int32) < a0 then some (0 : Int32) else some (1 : Int32)))
abbrev rm_X2_isPoints : Room := { frames := 0, cells := 0, slots := 0, locals := 0 }
theorem hd_X2_isPoints : yX2_isPoints.cls = RX2 ∧ yX2_isPoints.cls ≠ "java/lang/invoke/MethodHandle" ∧ yX2_isPoints.cls ≠ "java/lang/invoke/VarHandle" ∧ (parseMethodDescriptor yX2_isPoints.desc).map (fun d => d.parameters.length) = some 1 := by decide +kernel
set_option maxHeartbeats 4000000 in
set_option maxRecDepth 100000 in
theorem c_X2_isPoints (l : Launch) (D : va_G) (cI cZ cT : ClassId) (a0 : Int32) (r : Int32) (h : f_X2_isPoints a0 = some r) : Met l yX2_isPoints (wq yX2_isPoints cX2_isPoints 1 (some .boolean)) rm_X2_isPoints (q_R D (q_tys cI cZ cT) ([]) q_T [.int a0]) (vp_Si (fun r' => r' = r)) 0 0 (fun _ => False) := by
  refine q_RI (cc := cX2_isPoints) (maxL := 1) (ret := (some .boolean)) (plainFor_of_name (by decide)) (Nat.le_of_ble_eq_true rfl) (fun p e s m below meth c C0 hP hK hE ls hl => ?_)
  have hl : lv_has ls 1 [(0, .int a0)] := hl
  obtain ⟨hx, hb, hr, hml, hown, hts, hlocks⟩ := id C0
  have hF : CallFix p m c cX2_isPoints 1 s _ BW RX2 := ⟨hx, hb, hml, hown, hts⟩
  rw [f_X2_isPoints] at h
  refine lv_iload_n hx hb dX2_isPoints_0 rfl (lv_at hl 0 rfl) ?_
  refine lv_if_lt (tgt := 14) hx hb dX2_isPoints_1 (by decide) (fun c1 => ?_) (fun c1 => ?_)
  · have h := xt c1 h
    refine lv_iconst (v := 0) hx hb dX2_isPoints_14 (by decide) ?_
    cases h
    exact x_retR C0 rfl dX2_isPoints_15
  · have h := xf c1 h
    refine lv_iload_n hx hb dX2_isPoints_4 rfl (lv_at hl 0 rfl) ?_
    refine lv_bipush (v := 9) hx hb dX2_isPoints_5 (by decide) ?_
    refine lv_icmp_gt (tgt := 14) hx hb dX2_isPoints_7 (by decide) (fun c2 => ?_) (fun c2 => ?_)
    · have h := xt c2 h
      refine lv_iconst (v := 0) hx hb dX2_isPoints_14 (by decide) ?_
      cases h
      exact x_retR C0 rfl dX2_isPoints_15
    · have h := xf c2 h
      refine lv_iconst (v := 1) hx hb dX2_isPoints_10 (by decide) ?_
      refine lv_goto (tgt := 15) hx hb dX2_isPoints_11 (by decide) ?_
      cases h
      exact x_retR C0 rfl dX2_isPoints_15

/-! QuarrelWays.Town.isRank (I)Z -/
def f_X2_isRank (a0 : Int32) : Option (Int32) := (if a0 < (1 : Int32) then some (0 : Int32) else (if (9 : Int32) < a0 then some (0 : Int32) else some (1 : Int32)))
abbrev rm_X2_isRank : Room := { frames := 0, cells := 0, slots := 0, locals := 0 }
theorem hd_X2_isRank : yX2_isRank.cls = RX2 ∧ yX2_isRank.cls ≠ "java/lang/invoke/MethodHandle" ∧ yX2_isRank.cls ≠ "java/lang/invoke/VarHandle" ∧ (parseMethodDescriptor yX2_isRank.desc).map (fun d => d.parameters.length) = some 1 := by decide +kernel
set_option maxHeartbeats 4000000 in
set_option maxRecDepth 100000 in
theorem c_X2_isRank (l : Launch) (D : va_G) (cI cZ cT : ClassId) (a0 : Int32) (r : Int32) (h : f_X2_isRank a0 = some r) : Met l yX2_isRank (wq yX2_isRank cX2_isRank 1 (some .boolean)) rm_X2_isRank (q_R D (q_tys cI cZ cT) ([]) q_T [.int a0]) (vp_Si (fun r' => r' = r)) 0 0 (fun _ => False) := by
  refine q_RI (cc := cX2_isRank) (maxL := 1) (ret := (some .boolean)) (plainFor_of_name (by decide)) (Nat.le_of_ble_eq_true rfl) (fun p e s m below meth c C0 hP hK hE ls hl => ?_)
  have hl : lv_has ls 1 [(0, .int a0)] := hl
  obtain ⟨hx, hb, hr, hml, hown, hts, hlocks⟩ := id C0
  have hF : CallFix p m c cX2_isRank 1 s _ BW RX2 := ⟨hx, hb, hml, hown, hts⟩
  rw [f_X2_isRank] at h
  refine lv_iload_n hx hb dX2_isRank_0 rfl (lv_at hl 0 rfl) ?_
  refine lv_iconst (v := 1) hx hb dX2_isRank_1 (by decide) ?_
  refine lv_icmp_lt (tgt := 15) hx hb dX2_isRank_2 (by decide) (fun c1 => ?_) (fun c1 => ?_)
  · have h := xt c1 h
    refine lv_iconst (v := 0) hx hb dX2_isRank_15 (by decide) ?_
    cases h
    exact x_retR C0 rfl dX2_isRank_16
  · have h := xf c1 h
    refine lv_iload_n hx hb dX2_isRank_5 rfl (lv_at hl 0 rfl) ?_
    refine lv_bipush (v := 9) hx hb dX2_isRank_6 (by decide) ?_
    refine lv_icmp_gt (tgt := 15) hx hb dX2_isRank_8 (by decide) (fun c2 => ?_) (fun c2 => ?_)
    · have h := xt c2 h
      refine lv_iconst (v := 0) hx hb dX2_isRank_15 (by decide) ?_
      cases h
      exact x_retR C0 rfl dX2_isRank_16
    · have h := xf c2 h
      refine lv_iconst (v := 1) hx hb dX2_isRank_11 (by decide) ?_
      refine lv_goto (tgt := 16) hx hb dX2_isRank_12 (by decide) ?_
      cases h
      exact x_retR C0 rfl dX2_isRank_16

/-! QuarrelWays.Town.areThese (IIII)Z -/
def f_X2_areThese (a0 : Int32) (a1 : Int32) (a2 : Int32) (a3 : Int32) : Option (Int32) := (if a0 = a2 then (if a1 = a3 then some (1 : Int32) else (if a0 = a3 then (if a1 = a2 then some (1 : Int32) else some (0 : Int32)) else some (0 : Int32))) else (if a0 = a3 then (if a1 = a2 then some (1 : Int32) else some (0 : Int32)) else some (0 : Int32)))
abbrev rm_X2_areThese : Room := { frames := 0, cells := 0, slots := 0, locals := 0 }
theorem hd_X2_areThese : yX2_areThese.cls = RX2 ∧ yX2_areThese.cls ≠ "java/lang/invoke/MethodHandle" ∧ yX2_areThese.cls ≠ "java/lang/invoke/VarHandle" ∧ (parseMethodDescriptor yX2_areThese.desc).map (fun d => d.parameters.length) = some 4 := by decide +kernel
set_option maxHeartbeats 4000000 in
set_option maxRecDepth 100000 in
theorem c_X2_areThese (l : Launch) (D : va_G) (cI cZ cT : ClassId) (a0 : Int32) (a1 : Int32) (a2 : Int32) (a3 : Int32) (r : Int32) (h : f_X2_areThese a0 a1 a2 a3 = some r) : Met l yX2_areThese (wq yX2_areThese cX2_areThese 4 (some .boolean)) rm_X2_areThese (q_R D (q_tys cI cZ cT) ([]) q_T [.int a0, .int a1, .int a2, .int a3]) (vp_Si (fun r' => r' = r)) 0 0 (fun _ => False) := by
  refine q_RI (cc := cX2_areThese) (maxL := 4) (ret := (some .boolean)) (plainFor_of_name (by decide)) (Nat.le_of_ble_eq_true rfl) (fun p e s m below meth c C0 hP hK hE ls hl => ?_)
  have hl : lv_has ls 4 [(0, .int a0), (1, .int a1), (2, .int a2), (3, .int a3)] := hl
  obtain ⟨hx, hb, hr, hml, hown, hts, hlocks⟩ := id C0
  have hF : CallFix p m c cX2_areThese 4 s _ BW RX2 := ⟨hx, hb, hml, hown, hts⟩
  rw [f_X2_areThese] at h
  refine lv_iload_n hx hb dX2_areThese_0 rfl (lv_at hl 0 rfl) ?_
  refine lv_iload_n hx hb dX2_areThese_1 rfl (lv_at hl 2 rfl) ?_
  refine lv_icmp_ne (tgt := 10) hx hb dX2_areThese_2 (by decide) (fun c1 => ?_) (fun c1 => ?_)
  · have h := xf c1 h
    refine lv_iload_n hx hb dX2_areThese_10 rfl (lv_at hl 0 rfl) ?_
    refine lv_iload_n hx hb dX2_areThese_11 rfl (lv_at hl 3 rfl) ?_
    refine lv_icmp_ne (tgt := 24) hx hb dX2_areThese_12 (by decide) (fun c2 => ?_) (fun c2 => ?_)
    · have h := xf c2 h
      refine lv_iconst (v := 0) hx hb dX2_areThese_24 (by decide) ?_
      cases h
      exact x_retR C0 rfl dX2_areThese_25
    · have h := xt c2 h
      refine lv_iload_n hx hb dX2_areThese_15 rfl (lv_at hl 1 rfl) ?_
      refine lv_iload_n hx hb dX2_areThese_16 rfl (lv_at hl 2 rfl) ?_
      refine lv_icmp_ne (tgt := 24) hx hb dX2_areThese_17 (by decide) (fun c3 => ?_) (fun c3 => ?_)
      · have h := xf c3 h
        refine lv_iconst (v := 0) hx hb dX2_areThese_24 (by decide) ?_
        cases h
        exact x_retR C0 rfl dX2_areThese_25
      · have h := xt c3 h
        refine lv_iconst (v := 1) hx hb dX2_areThese_20 (by decide) ?_
        refine lv_goto (tgt := 25) hx hb dX2_areThese_21 (by decide) ?_
        cases h
        exact x_retR C0 rfl dX2_areThese_25
  · have h := xt c1 h
    refine lv_iload_n hx hb dX2_areThese_5 rfl (lv_at hl 1 rfl) ?_
    refine lv_iload_n hx hb dX2_areThese_6 rfl (lv_at hl 3 rfl) ?_
    refine lv_icmp_eq (tgt := 20) hx hb dX2_areThese_7 (by decide) (fun c4 => ?_) (fun c4 => ?_)
    · have h := xt c4 h
      refine lv_iconst (v := 1) hx hb dX2_areThese_20 (by decide) ?_
      refine lv_goto (tgt := 25) hx hb dX2_areThese_21 (by decide) ?_
      cases h
      exact x_retR C0 rfl dX2_areThese_25
    · have h := xf c4 h
      refine lv_iload_n hx hb dX2_areThese_10 rfl (lv_at hl 0 rfl) ?_
      refine lv_iload_n hx hb dX2_areThese_11 rfl (lv_at hl 3 rfl) ?_
      refine lv_icmp_ne (tgt := 24) hx hb dX2_areThese_12 (by decide) (fun c5 => ?_) (fun c5 => ?_)
      · have h := xf c5 h
        refine lv_iconst (v := 0) hx hb dX2_areThese_24 (by decide) ?_
        cases h
        exact x_retR C0 rfl dX2_areThese_25
      · have h := xt c5 h
        refine lv_iload_n hx hb dX2_areThese_15 rfl (lv_at hl 1 rfl) ?_
        refine lv_iload_n hx hb dX2_areThese_16 rfl (lv_at hl 2 rfl) ?_
        refine lv_icmp_ne (tgt := 24) hx hb dX2_areThese_17 (by decide) (fun c6 => ?_) (fun c6 => ?_)
        · have h := xf c6 h
          refine lv_iconst (v := 0) hx hb dX2_areThese_24 (by decide) ?_
          cases h
          exact x_retR C0 rfl dX2_areThese_25
        · have h := xt c6 h
          refine lv_iconst (v := 1) hx hb dX2_areThese_20 (by decide) ?_
          refine lv_goto (tgt := 25) hx hb dX2_areThese_21 (by decide) ?_
          cases h
          exact x_retR C0 rfl dX2_areThese_25

/-! QuarrelWays.Town.isOpen (I)Z -/
def f_X2_isOpen (t : TT) (a1 : Int32) : Option (Int32) := ((f_X2_read t (92 : Int32) a1).bind fun x1 => (if x1 = 0 then some (1 : Int32) else some (0 : Int32)))
abbrev rm_X2_isOpen : Room := { frames := 1, cells := 0, slots := 0, locals := 23 }
theorem hd_X2_isOpen : yX2_isOpen.cls = RX2 ∧ yX2_isOpen.cls ≠ "java/lang/invoke/MethodHandle" ∧ yX2_isOpen.cls ≠ "java/lang/invoke/VarHandle" ∧ (parseMethodDescriptor yX2_isOpen.desc).map (fun d => d.parameters.length) = some 1 := by decide +kernel
set_option maxHeartbeats 4000000 in
set_option maxRecDepth 100000 in
theorem c_X2_isOpen (l : Launch) (D : va_G) (cI cZ cT : ClassId) (o a : Nat) (t : TT) (a1 : Int32) (r : Int32) (h : f_X2_isOpen t a1 = some r) : Met l yX2_isOpen (wq yX2_isOpen cX2_isOpen 2 (some .boolean)) rm_X2_isOpen (q_R D (q_tys cI cZ cT) (wT cI o a t) q_T [.ref o, .int a1]) (vp_Si (fun r' => r' = r)) 0 0 (fun _ => False) := by
  refine q_RI (cc := cX2_isOpen) (maxL := 2) (ret := (some .boolean)) (plainFor_of_name (by decide)) (Nat.le_of_ble_eq_true rfl) (fun p e s m below meth c C0 hP hK hE ls hl => ?_)
  have hl : lv_has ls 2 [(0, .ref o), (1, .int a1)] := hl
  obtain ⟨hx, hb, hr, hml, hown, hts, hlocks⟩ := id C0
  have hF : CallFix p m c cX2_isOpen 2 s _ BW RX2 := ⟨hx, hb, hml, hown, hts⟩
  rw [f_X2_isOpen] at h
  refine lv_aload_n hx hb dX2_isOpen_0 rfl (lv_at hl 0 rfl) ?_
  refine lv_bipush (v := 92) hx hb dX2_isOpen_1 (by decide) ?_
  refine lv_iload_n hx hb dX2_isOpen_3 rfl (lv_at hl 1 rfl) ?_
  obtain ⟨x1, h2, h⟩ := bE h
  refine x_RV (As := [.int (92 : Int32), .int a1]) (rest := []) hF (c_X2_read l D cI cZ cT o a t (92 : Int32) a1 x1 h2) (cwV 2 hts (gqV mw_65 mw_66 mw_67 mw_15 mw_61) rfl rfl rfl hd_X2_read ⟨Nat.le_of_ble_eq_true rfl, Nat.le_of_ble_eq_true rfl⟩) hK hP q_T_bl (fun _ _ _ => trivial) [0, 1] rfl rfl rfl rfl hl.1 rfl (Nat.le_of_ble_eq_true rfl) dX2_isOpen_4 ⟨Nat.zero_le _, Nat.zero_le _⟩ ?_
  refine lv_if_ne (tgt := 14) hx hb dX2_isOpen_7 (by decide) (fun c3 => ?_) (fun c3 => ?_)
  · have h := xf c3 h
    refine lv_iconst (v := 0) hx hb dX2_isOpen_14 (by decide) ?_
    cases h
    exact x_retR C0 rfl dX2_isOpen_15
  · have h := xt c3 h
    refine lv_iconst (v := 1) hx hb dX2_isOpen_10 (by decide) ?_
    refine lv_goto (tgt := 15) hx hb dX2_isOpen_11 (by decide) ?_
    cases h
    exact x_retR C0 rfl dX2_isOpen_15

/-! QuarrelWays.Town.allows (I)Z -/
def f_X2_allows (t : TT) (a1 : Int32) : Option (Int32) := (if (t.2.1 &&& ((1 : Int32) <<< (a1 &&& 31))) = 0 then some (0 : Int32) else some (1 : Int32))
abbrev rm_X2_allows : Room := { frames := 0, cells := 0, slots := 0, locals := 0 }
theorem hd_X2_allows : yX2_allows.cls = RX2 ∧ yX2_allows.cls ≠ "java/lang/invoke/MethodHandle" ∧ yX2_allows.cls ≠ "java/lang/invoke/VarHandle" ∧ (parseMethodDescriptor yX2_allows.desc).map (fun d => d.parameters.length) = some 1 := by decide +kernel
set_option maxHeartbeats 4000000 in
set_option maxRecDepth 100000 in
theorem c_X2_allows (l : Launch) (D : va_G) (cI cZ cT : ClassId) (o a : Nat) (t : TT) (a1 : Int32) (r : Int32) (h : f_X2_allows t a1 = some r) : Met l yX2_allows (wq yX2_allows cX2_allows 2 (some .boolean)) rm_X2_allows (q_R D (q_tys cI cZ cT) (wT cI o a t) q_T [.ref o, .int a1]) (vp_Si (fun r' => r' = r)) 0 0 (fun _ => False) := by
  refine q_RI (cc := cX2_allows) (maxL := 2) (ret := (some .boolean)) (plainFor_of_name (by decide)) (Nat.le_of_ble_eq_true rfl) (fun p e s m below meth c C0 hP hK hE ls hl => ?_)
  have hl : lv_has ls 2 [(0, .ref o), (1, .int a1)] := hl
  obtain ⟨hx, hb, hr, hml, hown, hts, hlocks⟩ := id C0
  have hF : CallFix p m c cX2_allows 2 s _ BW RX2 := ⟨hx, hb, hml, hown, hts⟩
  rw [f_X2_allows] at h
  refine lv_aload_n hx hb dX2_allows_0 rfl (lv_at hl 0 rfl) ?_
  refine va_get (D := D) (v := .int t.2.1) (C := RX2) (T := TX2) (N := 6) hx hb hts iw_X2 hown hK hP 0 rfl rfl 1 (by decide) (hts _ mw_7) (fun _ h9 => h9) rfl dX2_allows_1 ?_
  refine lv_iconst (v := 1) hx hb dX2_allows_4 (by decide) ?_
  refine lv_iload_n hx hb dX2_allows_5 rfl (lv_at hl 1 rfl) ?_
  refine lv_ishl hx hb dX2_allows_6 ?_
  refine lv_iand hx hb dX2_allows_7 ?_
  refine lv_if_eq (tgt := 15) hx hb dX2_allows_8 (by decide) (fun c1 => ?_) (fun c1 => ?_)
  · have h := xt c1 h
    refine lv_iconst (v := 0) hx hb dX2_allows_15 (by decide) ?_
    cases h
    exact x_retR C0 rfl dX2_allows_16
  · have h := xf c1 h
    refine lv_iconst (v := 1) hx hb dX2_allows_11 (by decide) ?_
    refine lv_goto (tgt := 16) hx hb dX2_allows_12 (by decide) ?_
    cases h
    exact x_retR C0 rfl dX2_allows_16

/-! QuarrelWays.Town.hoursSince (I)I -/
def f_X2_hoursSince (t : TT) (a1 : Int32) : Option (Int32) := ((f_X2_read t (80 : Int32) a1).bind fun x1 => some (t.1 - x1))
abbrev rm_X2_hoursSince : Room := { frames := 1, cells := 0, slots := 0, locals := 23 }
theorem hd_X2_hoursSince : yX2_hoursSince.cls = RX2 ∧ yX2_hoursSince.cls ≠ "java/lang/invoke/MethodHandle" ∧ yX2_hoursSince.cls ≠ "java/lang/invoke/VarHandle" ∧ (parseMethodDescriptor yX2_hoursSince.desc).map (fun d => d.parameters.length) = some 1 := by decide +kernel
set_option maxHeartbeats 4000000 in
set_option maxRecDepth 100000 in
theorem c_X2_hoursSince (l : Launch) (D : va_G) (cI cZ cT : ClassId) (o a : Nat) (t : TT) (a1 : Int32) (r : Int32) (h : f_X2_hoursSince t a1 = some r) : Met l yX2_hoursSince (wq yX2_hoursSince cX2_hoursSince 2 (some .int)) rm_X2_hoursSince (q_R D (q_tys cI cZ cT) (wT cI o a t) q_T [.ref o, .int a1]) (vp_Si (fun r' => r' = r)) 0 0 (fun _ => False) := by
  refine q_RI (cc := cX2_hoursSince) (maxL := 2) (ret := (some .int)) (plainFor_of_name (by decide)) (Nat.le_of_ble_eq_true rfl) (fun p e s m below meth c C0 hP hK hE ls hl => ?_)
  have hl : lv_has ls 2 [(0, .ref o), (1, .int a1)] := hl
  obtain ⟨hx, hb, hr, hml, hown, hts, hlocks⟩ := id C0
  have hF : CallFix p m c cX2_hoursSince 2 s _ BW RX2 := ⟨hx, hb, hml, hown, hts⟩
  rw [f_X2_hoursSince] at h
  refine lv_aload_n hx hb dX2_hoursSince_0 rfl (lv_at hl 0 rfl) ?_
  refine va_get (D := D) (v := .int t.1) (C := RX2) (T := TX2) (N := 6) hx hb hts iw_X2 hown hK hP 0 rfl rfl 0 (by decide) (hts _ mw_6) (fun _ h9 => h9) rfl dX2_hoursSince_1 ?_
  refine lv_aload_n hx hb dX2_hoursSince_4 rfl (lv_at hl 0 rfl) ?_
  refine lv_bipush (v := 80) hx hb dX2_hoursSince_5 (by decide) ?_
  refine lv_iload_n hx hb dX2_hoursSince_7 rfl (lv_at hl 1 rfl) ?_
  obtain ⟨x1, h2, h⟩ := bE h
  refine x_RV (As := [.int (80 : Int32), .int a1]) (rest := [.int t.1]) hF (c_X2_read l D cI cZ cT o a t (80 : Int32) a1 x1 h2) (cwV 2 hts (gqV mw_65 mw_66 mw_67 mw_15 mw_61) rfl rfl rfl hd_X2_read ⟨Nat.le_of_ble_eq_true rfl, Nat.le_of_ble_eq_true rfl⟩) hK hP q_T_bl (fun _ _ _ => trivial) [0, 1] rfl rfl rfl rfl hl.1 rfl (Nat.le_of_ble_eq_true rfl) dX2_hoursSince_8 ⟨Nat.zero_le _, Nat.zero_le _⟩ ?_
  refine lv_isub hx hb dX2_hoursSince_11 ?_
  cases h
  exact x_retR C0 rfl dX2_hoursSince_12

/-! QuarrelWays.Town.oathLeft (I)I -/
def f_X2_oathLeft (t : TT) (a1 : Int32) : Option (Int32) := ((f_X2_read t (34 : Int32) a1).bind fun x1 => some (if (0 : Int32) < (x1 - t.1) then (x1 - t.1) else (0 : Int32)))
abbrev rm_X2_oathLeft : Room := { frames := 1, cells := 0, slots := 0, locals := 24 }
theorem hd_X2_oathLeft : yX2_oathLeft.cls = RX2 ∧ yX2_oathLeft.cls ≠ "java/lang/invoke/MethodHandle" ∧ yX2_oathLeft.cls ≠ "java/lang/invoke/VarHandle" ∧ (parseMethodDescriptor yX2_oathLeft.desc).map (fun d => d.parameters.length) = some 1 := by decide +kernel
set_option maxHeartbeats 4000000 in
set_option maxRecDepth 100000 in
theorem c_X2_oathLeft (l : Launch) (D : va_G) (cI cZ cT : ClassId) (o a : Nat) (t : TT) (a1 : Int32) (r : Int32) (h : f_X2_oathLeft t a1 = some r) : Met l yX2_oathLeft (wq yX2_oathLeft cX2_oathLeft 2 (some .int)) rm_X2_oathLeft (q_R D (q_tys cI cZ cT) (wT cI o a t) q_T [.ref o, .int a1]) (vp_Si (fun r' => r' = r)) 0 0 (fun _ => False) := by
  refine q_RI (cc := cX2_oathLeft) (maxL := 2) (ret := (some .int)) (plainFor_of_name (by decide)) (Nat.le_of_ble_eq_true rfl) (fun p e s m below meth c C0 hP hK hE ls hl => ?_)
  have hl : lv_has ls 2 [(0, .ref o), (1, .int a1)] := hl
  obtain ⟨hx, hb, hr, hml, hown, hts, hlocks⟩ := id C0
  have hF : CallFix p m c cX2_oathLeft 2 s _ BW RX2 := ⟨hx, hb, hml, hown, hts⟩
  rw [f_X2_oathLeft] at h
  refine lv_iconst (v := 0) hx hb dX2_oathLeft_0 (by decide) ?_
  refine lv_aload_n hx hb dX2_oathLeft_1 rfl (lv_at hl 0 rfl) ?_
  refine lv_bipush (v := 34) hx hb dX2_oathLeft_2 (by decide) ?_
  refine lv_iload_n hx hb dX2_oathLeft_4 rfl (lv_at hl 1 rfl) ?_
  obtain ⟨x1, h2, h⟩ := bE h
  refine x_RV (As := [.int (34 : Int32), .int a1]) (rest := [.int (0 : Int32)]) hF (c_X2_read l D cI cZ cT o a t (34 : Int32) a1 x1 h2) (cwV 2 hts (gqV mw_65 mw_66 mw_67 mw_15 mw_61) rfl rfl rfl hd_X2_read ⟨Nat.le_of_ble_eq_true rfl, Nat.le_of_ble_eq_true rfl⟩) hK hP q_T_bl (fun _ _ _ => trivial) [0, 1] rfl rfl rfl rfl hl.1 rfl (Nat.le_of_ble_eq_true rfl) dX2_oathLeft_5 ⟨Nat.zero_le _, Nat.zero_le _⟩ ?_
  refine lv_aload_n hx hb dX2_oathLeft_8 rfl (lv_at hl 0 rfl) ?_
  refine va_get (D := D) (v := .int t.1) (C := RX2) (T := TX2) (N := 6) hx hb hts iw_X2 hown hK hP 0 rfl rfl 0 (by decide) (hts _ mw_6) (fun _ h9 => h9) rfl dX2_oathLeft_9 ?_
  refine lv_isub hx hb dX2_oathLeft_12 ?_
  refine va_mmax hx hb (hml.trans hl.1.symm) hown (hts _ mw_71) (hts _ mw_72) (hts _ mw_28) (hts _ mw_73) (Nat.le_of_ble_eq_true rfl) (Nat.le_of_ble_eq_true rfl) (Nat.zero_le _) (Nat.zero_le _) dX2_oathLeft_13 ?_
  cases h
  exact x_retR C0 rfl dX2_oathLeft_16

/-! QuarrelWays.Town.errorOfInsult (III)I -/
def f_X2_errorOfInsult (t : TT) (a1 : Int32) (a2 : Int32) (a3 : Int32) : Option (Int32) := ((f_X2_hasPerson t a1).bind fun x1 => (if x1 = 0 then some (-1 : Int32) else ((f_X2_hasPerson t a2).bind fun x4 => (if x4 = 0 then some (-1 : Int32) else (if a1 = a2 then some (-2 : Int32) else ((f_X2_isRank a3).bind fun x8 => (if x8 = 0 then some (-2 : Int32) else some (0 : Int32))))))))
abbrev rm_X2_errorOfInsult : Room := { frames := 1, cells := 0, slots := 0, locals := 21 }
theorem hd_X2_errorOfInsult : yX2_errorOfInsult.cls = RX2 ∧ yX2_errorOfInsult.cls ≠ "java/lang/invoke/MethodHandle" ∧ yX2_errorOfInsult.cls ≠ "java/lang/invoke/VarHandle" ∧ (parseMethodDescriptor yX2_errorOfInsult.desc).map (fun d => d.parameters.length) = some 3 := by decide +kernel
set_option maxHeartbeats 4000000 in
set_option maxRecDepth 100000 in
theorem c_X2_errorOfInsult (l : Launch) (D : va_G) (cI cZ cT : ClassId) (o a : Nat) (t : TT) (a1 : Int32) (a2 : Int32) (a3 : Int32) (r : Int32) (h : f_X2_errorOfInsult t a1 a2 a3 = some r) : Met l yX2_errorOfInsult (wq yX2_errorOfInsult cX2_errorOfInsult 4 (some .int)) rm_X2_errorOfInsult (q_R D (q_tys cI cZ cT) (wT cI o a t) q_T [.ref o, .int a1, .int a2, .int a3]) (vp_Si (fun r' => r' = r)) 0 0 (fun _ => False) := by
  refine q_RI (cc := cX2_errorOfInsult) (maxL := 4) (ret := (some .int)) (plainFor_of_name (by decide)) (Nat.le_of_ble_eq_true rfl) (fun p e s m below meth c C0 hP hK hE ls hl => ?_)
  have hl : lv_has ls 4 [(0, .ref o), (1, .int a1), (2, .int a2), (3, .int a3)] := hl
  obtain ⟨hx, hb, hr, hml, hown, hts, hlocks⟩ := id C0
  have hF : CallFix p m c cX2_errorOfInsult 4 s _ BW RX2 := ⟨hx, hb, hml, hown, hts⟩
  rw [f_X2_errorOfInsult] at h
  refine lv_aload_n hx hb dX2_errorOfInsult_0 rfl (lv_at hl 0 rfl) ?_
  refine lv_iload_n hx hb dX2_errorOfInsult_1 rfl (lv_at hl 1 rfl) ?_
  obtain ⟨x1, h2, h⟩ := bE h
  refine x_RV (As := [.int a1]) (rest := []) hF (c_X2_hasPerson l D cI cZ cT o a t a1 x1 h2) (cwV 1 hts (gqV mw_84 mw_85 mw_86 mw_15 mw_62) rfl rfl rfl hd_X2_hasPerson ⟨Nat.le_of_ble_eq_true rfl, Nat.le_of_ble_eq_true rfl⟩) hK hP q_T_bl (fun _ _ _ => trivial) [0, 1] rfl rfl rfl rfl hl.1 rfl (Nat.le_of_ble_eq_true rfl) dX2_errorOfInsult_2 ⟨Nat.zero_le _, Nat.zero_le _⟩ ?_
  refine lv_if_eq (tgt := 16) hx hb dX2_errorOfInsult_5 (by decide) (fun c3 => ?_) (fun c3 => ?_)
  · have h := xt c3 h
    refine lv_iconst (v := (-1)) hx hb dX2_errorOfInsult_16 (by decide) ?_
    cases h
    exact x_retR C0 rfl dX2_errorOfInsult_17
  · have h := xf c3 h
    refine lv_aload_n hx hb dX2_errorOfInsult_8 rfl (lv_at hl 0 rfl) ?_
    refine lv_iload_n hx hb dX2_errorOfInsult_9 rfl (lv_at hl 2 rfl) ?_
    obtain ⟨x4, h5, h⟩ := bE h
    refine x_RV (As := [.int a2]) (rest := []) hF (c_X2_hasPerson l D cI cZ cT o a t a2 x4 h5) (cwV 1 hts (gqV mw_84 mw_85 mw_86 mw_15 mw_62) rfl rfl rfl hd_X2_hasPerson ⟨Nat.le_of_ble_eq_true rfl, Nat.le_of_ble_eq_true rfl⟩) hK hP q_T_bl (fun _ _ _ => trivial) [0, 1] rfl rfl rfl rfl hl.1 rfl (Nat.le_of_ble_eq_true rfl) dX2_errorOfInsult_10 ⟨Nat.zero_le _, Nat.zero_le _⟩ ?_
    refine lv_if_ne (tgt := 18) hx hb dX2_errorOfInsult_13 (by decide) (fun c6 => ?_) (fun c6 => ?_)
    · have h := xf c6 h
      refine lv_iload_n hx hb dX2_errorOfInsult_18 rfl (lv_at hl 1 rfl) ?_
      refine lv_iload_n hx hb dX2_errorOfInsult_19 rfl (lv_at hl 2 rfl) ?_
      refine lv_icmp_eq (tgt := 30) hx hb dX2_errorOfInsult_20 (by decide) (fun c7 => ?_) (fun c7 => ?_)
      · have h := xt c7 h
        refine lv_bipush (v := (-2)) hx hb dX2_errorOfInsult_30 (by decide) ?_
        refine lv_goto (tgt := 36) hx hb dX2_errorOfInsult_32 (by decide) ?_
        cases h
        exact x_retR C0 rfl dX2_errorOfInsult_36
      · have h := xf c7 h
        refine lv_iload_n hx hb dX2_errorOfInsult_23 rfl (lv_at hl 3 rfl) ?_
        obtain ⟨x8, h9, h⟩ := bE h
        refine x_RS (As := [.int a3]) (rest := []) hF (c_X2_isRank l D cI cZ cT  a3 x8 h9) (va_cwS 1 hts (gqS mw_89 mw_90 mw_15 mw_75) rfl rfl rfl hd_X2_isRank.2 ⟨Nat.le_of_ble_eq_true rfl, Nat.le_of_ble_eq_true rfl⟩) hK hP q_T_bl (fun _ _ _ => trivial) [] rfl rfl hl.1 rfl (Nat.le_of_ble_eq_true rfl) dX2_errorOfInsult_24 ⟨Nat.zero_le _, Nat.zero_le _⟩ ?_
        refine lv_if_ne (tgt := 35) hx hb dX2_errorOfInsult_27 (by decide) (fun c10 => ?_) (fun c10 => ?_)
        · have h := xf c10 h
          refine lv_iconst (v := 0) hx hb dX2_errorOfInsult_35 (by decide) ?_
          cases h
          exact x_retR C0 rfl dX2_errorOfInsult_36
        · have h := xt c10 h
          refine lv_bipush (v := (-2)) hx hb dX2_errorOfInsult_30 (by decide) ?_
          refine lv_goto (tgt := 36) hx hb dX2_errorOfInsult_32 (by decide) ?_
          cases h
          exact x_retR C0 rfl dX2_errorOfInsult_36
    · have h := xt c6 h
      refine lv_iconst (v := (-1)) hx hb dX2_errorOfInsult_16 (by decide) ?_
      cases h
      exact x_retR C0 rfl dX2_errorOfInsult_17

/-! QuarrelWays.Town.haveOpenQuarrel (II)Z -/
def f_X2_haveOpenQuarrel_L2 (z0 : TT) (y1 : Int32) (y2 : Int32) : Nat → Int32 → Option (Int32)
  | 0, _ => none
  | n + 1, y3 => (if z0.2.2.2.1 ≤ y3 then some (0 : Int32) else ((f_X2_isOpen z0 y3).bind fun x2 => (if x2 = 0 then f_X2_haveOpenQuarrel_L2 z0 y1 y2 n (y3 + (1 : Int32)) else ((f_X2_read z0 (44 : Int32) y3).bind fun x5 => ((f_X2_read z0 (56 : Int32) y3).bind fun x7 => ((f_X2_areThese y1 y2 x5 x7).bind fun x9 => (if x9 = 0 then f_X2_haveOpenQuarrel_L2 z0 y1 y2 n (y3 + (1 : Int32)) else some (1 : Int32))))))))
def f_X2_haveOpenQuarrel (t : TT) (a1 : Int32) (a2 : Int32) : Option (Int32) := f_X2_haveOpenQuarrel_L2 t a1 a2 2000 (0 : Int32)
abbrev rm_X2_haveOpenQuarrel : Room := { frames := 2, cells := 0, slots := 0, locals := 44 }
theorem hd_X2_haveOpenQuarrel : yX2_haveOpenQuarrel.cls = RX2 ∧ yX2_haveOpenQuarrel.cls ≠ "java/lang/invoke/MethodHandle" ∧ yX2_haveOpenQuarrel.cls ≠ "java/lang/invoke/VarHandle" ∧ (parseMethodDescriptor yX2_haveOpenQuarrel.desc).map (fun d => d.parameters.length) = some 2 := by decide +kernel
set_option maxHeartbeats 4000000 in
set_option maxRecDepth 100000 in
theorem k_X2_haveOpenQuarrel_L2 {r : Int32} (o a : Nat) (z0 : TT) (y1 : Int32) (y2 : Int32) (C0 : q_At p s m args meth c cX2_haveOpenQuarrel 4 (some .boolean) RX2) (hK : va_K D vwCl (q_tys cI cZ cT) s) (hP : va_P D vwCl (wT cI o a z0) s.heap) : ∀ (n : Nat) (y3 : Int32) (ls : Array Slot), lv_has ls 4 [(0, .ref o), (1, .int y1), (2, .int y2), (3, .int y3)] → f_X2_haveOpenQuarrel_L2 z0 y1 y2 n y3 = some r → W p l e rm_X2_haveOpenQuarrel s m args below meth c s.heap [] 0 0 (q_QR below args s r) (F0 m 2 ls []) := by
  obtain ⟨hx, hb, hr, hml, hown, hts, hlocks⟩ := id C0
  have hF : CallFix p m c cX2_haveOpenQuarrel 4 s args BW RX2 := ⟨hx, hb, hml, hown, hts⟩
  intro n
  induction n with
  | zero =>
    intro y3 ls hl h
    rw [f_X2_haveOpenQuarrel_L2] at h
    cases h
  | succ n ih =>
    intro y3 ls hl h
    rw [f_X2_haveOpenQuarrel_L2] at h
    refine lv_iload_n hx hb dX2_haveOpenQuarrel_2 rfl (lv_at hl 3 rfl) ?_
    refine lv_aload_n hx hb dX2_haveOpenQuarrel_3 rfl (lv_at hl 0 rfl) ?_
    refine va_get (D := D) (v := .int z0.2.2.2.1) (C := RX2) (T := TX2) (N := 6) hx hb hts iw_X2 hown hK hP 0 rfl rfl 3 (by decide) (hts _ mw_9) (fun _ h9 => h9) rfl dX2_haveOpenQuarrel_4 ?_
    refine lv_icmp_ge (tgt := 48) hx hb dX2_haveOpenQuarrel_7 (by decide) (fun c1 => ?_) (fun c1 => ?_)
    · have h := xt c1 h
      refine lv_iconst (v := 0) hx hb dX2_haveOpenQuarrel_48 (by decide) ?_
      cases h
      exact x_retR C0 rfl dX2_haveOpenQuarrel_49
    · have h := xf c1 h
      refine lv_aload_n hx hb dX2_haveOpenQuarrel_10 rfl (lv_at hl 0 rfl) ?_
      refine lv_iload_n hx hb dX2_haveOpenQuarrel_11 rfl (lv_at hl 3 rfl) ?_
      obtain ⟨x2, h3, h⟩ := bE h
      refine x_RV (As := [.int y3]) (rest := []) hF (c_X2_isOpen l D cI cZ cT o a z0 y3 x2 h3) (cwV 1 hts (gqV mw_92 mw_93 mw_94 mw_15 mw_64) rfl rfl rfl hd_X2_isOpen ⟨Nat.le_of_ble_eq_true rfl, Nat.le_of_ble_eq_true rfl⟩) hK hP q_T_bl (fun _ _ _ => trivial) [0, 1] rfl rfl rfl rfl hl.1 rfl (Nat.le_of_ble_eq_true rfl) dX2_haveOpenQuarrel_12 ⟨Nat.zero_le _, Nat.zero_le _⟩ ?_
      refine lv_if_eq (tgt := 42) hx hb dX2_haveOpenQuarrel_15 (by decide) (fun c4 => ?_) (fun c4 => ?_)
      · have h := xt c4 h
        refine lv_iinc (v := (y3 + (1 : Int32))) (lv' := [(3, .int (y3 + (1 : Int32))), (0, .ref o), (1, .int y1), (2, .int y2)]) hx hb dX2_haveOpenQuarrel_42 hl (k := 3) rfl rfl (by decide) rfl (fun ls hl => ?_)
        refine lv_goto (tgt := 2) hx hb dX2_haveOpenQuarrel_45 (by decide) ?_
        exact ih (y3 + (1 : Int32)) _ (lv_sub hl [1, 2, 3, 0] rfl) h
      · have h := xf c4 h
        refine lv_iload_n hx hb dX2_haveOpenQuarrel_18 rfl (lv_at hl 1 rfl) ?_
        refine lv_iload_n hx hb dX2_haveOpenQuarrel_19 rfl (lv_at hl 2 rfl) ?_
        refine lv_aload_n hx hb dX2_haveOpenQuarrel_20 rfl (lv_at hl 0 rfl) ?_
        refine lv_bipush (v := 44) hx hb dX2_haveOpenQuarrel_21 (by decide) ?_
        refine lv_iload_n hx hb dX2_haveOpenQuarrel_23 rfl (lv_at hl 3 rfl) ?_
        obtain ⟨x5, h6, h⟩ := bE h
        refine x_RV (As := [.int (44 : Int32), .int y3]) (rest := [.int y2, .int y1]) hF (c_X2_read l D cI cZ cT o a z0 (44 : Int32) y3 x5 h6) (cwV 2 hts (gqV mw_65 mw_66 mw_67 mw_15 mw_61) rfl rfl rfl hd_X2_read ⟨Nat.le_of_ble_eq_true rfl, Nat.le_of_ble_eq_true rfl⟩) hK hP q_T_bl (fun _ _ _ => trivial) [0, 1] rfl rfl rfl rfl hl.1 rfl (Nat.le_of_ble_eq_true rfl) dX2_haveOpenQuarrel_24 ⟨Nat.zero_le _, Nat.zero_le _⟩ ?_
        refine lv_aload_n hx hb dX2_haveOpenQuarrel_27 rfl (lv_at hl 0 rfl) ?_
        refine lv_bipush (v := 56) hx hb dX2_haveOpenQuarrel_28 (by decide) ?_
        refine lv_iload_n hx hb dX2_haveOpenQuarrel_30 rfl (lv_at hl 3 rfl) ?_
        obtain ⟨x7, h8, h⟩ := bE h
        refine x_RV (As := [.int (56 : Int32), .int y3]) (rest := [.int x5, .int y2, .int y1]) hF (c_X2_read l D cI cZ cT o a z0 (56 : Int32) y3 x7 h8) (cwV 2 hts (gqV mw_65 mw_66 mw_67 mw_15 mw_61) rfl rfl rfl hd_X2_read ⟨Nat.le_of_ble_eq_true rfl, Nat.le_of_ble_eq_true rfl⟩) hK hP q_T_bl (fun _ _ _ => trivial) [0, 1] rfl rfl rfl rfl hl.1 rfl (Nat.le_of_ble_eq_true rfl) dX2_haveOpenQuarrel_31 ⟨Nat.zero_le _, Nat.zero_le _⟩ ?_
        obtain ⟨x9, h10, h⟩ := bE h
        refine x_RS (As := [.int y1, .int y2, .int x5, .int x7]) (rest := []) hF (c_X2_areThese l D cI cZ cT  y1 y2 x5 x7 x9 h10) (va_cwS 4 hts (gqS mw_95 mw_96 mw_15 mw_76) rfl rfl rfl hd_X2_areThese.2 ⟨Nat.le_of_ble_eq_true rfl, Nat.le_of_ble_eq_true rfl⟩) hK hP q_T_bl (fun _ _ _ => trivial) [] rfl rfl hl.1 rfl (Nat.le_of_ble_eq_true rfl) dX2_haveOpenQuarrel_34 ⟨Nat.zero_le _, Nat.zero_le _⟩ ?_
        refine lv_if_eq (tgt := 42) hx hb dX2_haveOpenQuarrel_37 (by decide) (fun c11 => ?_) (fun c11 => ?_)
        · have h := xt c11 h
          refine lv_iinc (v := (y3 + (1 : Int32))) (lv' := [(3, .int (y3 + (1 : Int32))), (0, .ref o), (1, .int y1), (2, .int y2)]) hx hb dX2_haveOpenQuarrel_42 hl (k := 3) rfl rfl (by decide) rfl (fun ls hl => ?_)
          refine lv_goto (tgt := 2) hx hb dX2_haveOpenQuarrel_45 (by decide) ?_
          exact ih (y3 + (1 : Int32)) _ (lv_sub hl [1, 2, 3, 0] rfl) h
        · have h := xf c11 h
          refine lv_iconst (v := 1) hx hb dX2_haveOpenQuarrel_40 (by decide) ?_
          cases h
          exact x_retR C0 rfl dX2_haveOpenQuarrel_41
set_option maxHeartbeats 4000000 in
set_option maxRecDepth 100000 in
theorem c_X2_haveOpenQuarrel (l : Launch) (D : va_G) (cI cZ cT : ClassId) (o a : Nat) (t : TT) (a1 : Int32) (a2 : Int32) (r : Int32) (h : f_X2_haveOpenQuarrel t a1 a2 = some r) : Met l yX2_haveOpenQuarrel (wq yX2_haveOpenQuarrel cX2_haveOpenQuarrel 4 (some .boolean)) rm_X2_haveOpenQuarrel (q_R D (q_tys cI cZ cT) (wT cI o a t) q_T [.ref o, .int a1, .int a2]) (vp_Si (fun r' => r' = r)) 0 0 (fun _ => False) := by
  refine q_RI (cc := cX2_haveOpenQuarrel) (maxL := 4) (ret := (some .boolean)) (plainFor_of_name (by decide)) (Nat.le_of_ble_eq_true rfl) (fun p e s m below meth c C0 hP hK hE ls hl => ?_)
  have hl : lv_has ls 4 [(0, .ref o), (1, .int a1), (2, .int a2)] := hl
  obtain ⟨hx, hb, hr, hml, hown, hts, hlocks⟩ := id C0
  have hF : CallFix p m c cX2_haveOpenQuarrel 4 s _ BW RX2 := ⟨hx, hb, hml, hown, hts⟩
  rw [f_X2_haveOpenQuarrel] at h
  refine lv_iconst (v := 0) hx hb dX2_haveOpenQuarrel_0 (by decide) ?_
  refine lv_istore_n (lv' := [(3, .int (0 : Int32)), (0, .ref o), (1, .int a1), (2, .int a2)]) hx hb dX2_haveOpenQuarrel_1 rfl hl (by decide) rfl (fun ls hl => ?_)
  exact k_X2_haveOpenQuarrel_L2 o a t a1 a2 C0 hK hP 2000 (0 : Int32) _ (lv_sub hl [1, 2, 3, 0] rfl) h

/-! QuarrelWays.Town.hoursToCool (I)I -/
def f_X2_hoursToCool (t : TT) (a1 : Int32) : Option (Int32) := ((f_X2_read t (0 : Int32) (0 : Int32)).bind fun x1 => some (x1 * a1))
abbrev rm_X2_hoursToCool : Room := { frames := 1, cells := 0, slots := 0, locals := 23 }
theorem hd_X2_hoursToCool : yX2_hoursToCool.cls = RX2 ∧ yX2_hoursToCool.cls ≠ "java/lang/invoke/MethodHandle" ∧ yX2_hoursToCool.cls ≠ "java/lang/invoke/VarHandle" ∧ (parseMethodDescriptor yX2_hoursToCool.desc).map (fun d => d.parameters.length) = some 1 := by decide +kernel
set_option maxHeartbeats 4000000 in
set_option maxRecDepth 100000 in
theorem c_X2_hoursToCool (l : Launch) (D : va_G) (cI cZ cT : ClassId) (o a : Nat) (t : TT) (a1 : Int32) (r : Int32) (h : f_X2_hoursToCool t a1 = some r) : Met l yX2_hoursToCool (wq yX2_hoursToCool cX2_hoursToCool 2 (some .int)) rm_X2_hoursToCool (q_R D (q_tys cI cZ cT) (wT cI o a t) q_T [.ref o, .int a1]) (vp_Si (fun r' => r' = r)) 0 0 (fun _ => False) := by
  refine q_RI (cc := cX2_hoursToCool) (maxL := 2) (ret := (some .int)) (plainFor_of_name (by decide)) (Nat.le_of_ble_eq_true rfl) (fun p e s m below meth c C0 hP hK hE ls hl => ?_)
  have hl : lv_has ls 2 [(0, .ref o), (1, .int a1)] := hl
  obtain ⟨hx, hb, hr, hml, hown, hts, hlocks⟩ := id C0
  have hF : CallFix p m c cX2_hoursToCool 2 s _ BW RX2 := ⟨hx, hb, hml, hown, hts⟩
  rw [f_X2_hoursToCool] at h
  refine lv_aload_n hx hb dX2_hoursToCool_0 rfl (lv_at hl 0 rfl) ?_
  refine lv_iconst (v := 0) hx hb dX2_hoursToCool_1 (by decide) ?_
  refine lv_iconst (v := 0) hx hb dX2_hoursToCool_2 (by decide) ?_
  obtain ⟨x1, h2, h⟩ := bE h
  refine x_RV (As := [.int (0 : Int32), .int (0 : Int32)]) (rest := []) hF (c_X2_read l D cI cZ cT o a t (0 : Int32) (0 : Int32) x1 h2) (cwV 2 hts (gqV mw_65 mw_66 mw_67 mw_15 mw_61) rfl rfl rfl hd_X2_read ⟨Nat.le_of_ble_eq_true rfl, Nat.le_of_ble_eq_true rfl⟩) hK hP q_T_bl (fun _ _ _ => trivial) [0, 1] rfl rfl rfl rfl hl.1 rfl (Nat.le_of_ble_eq_true rfl) dX2_hoursToCool_3 ⟨Nat.zero_le _, Nat.zero_le _⟩ ?_
  refine lv_iload_n hx hb dX2_hoursToCool_6 rfl (lv_at hl 1 rfl) ?_
  refine lv_imul hx hb dX2_hoursToCool_7 ?_
  cases h
  exact x_retR C0 rfl dX2_hoursToCool_8

/-! QuarrelWays.Town.secondsCanSettle (III)Z -/
def f_X2_secondsCanSettle (t : TT) (a1 : Int32) (a2 : Int32) (a3 : Int32) : Option (Int32) := ((f_X2_read t (24 : Int32) a1).bind fun x1 => ((f_X2_read t (24 : Int32) a2).bind fun x3 => (if x1 = (-6 : Int32) then some (0 : Int32) else (if x3 = (-6 : Int32) then some (0 : Int32) else (if x1 = x3 then some (0 : Int32) else (if x1 = a2 then some (0 : Int32) else (if x3 = a1 then some (0 : Int32) else ((f_X2_read t (14 : Int32) x1).bind fun x10 => ((f_X2_read t (14 : Int32) x3).bind fun x12 => (if (x10 + x12) < ((2 : Int32) * a3) then some (0 : Int32) else some (1 : Int32)))))))))))
abbrev rm_X2_secondsCanSettle : Room := { frames := 1, cells := 0, slots := 0, locals := 23 }
theorem hd_X2_secondsCanSettle : yX2_secondsCanSettle.cls = RX2 ∧ yX2_secondsCanSettle.cls ≠ "java/lang/invoke/MethodHandle" ∧ yX2_secondsCanSettle.cls ≠ "java/lang/invoke/VarHandle" ∧ (parseMethodDescriptor yX2_secondsCanSettle.desc).map (fun d => d.parameters.length) = some 3 := by decide +kernel
set_option maxHeartbeats 4000000 in
set_option maxRecDepth 100000 in
theorem c_X2_secondsCanSettle (l : Launch) (D : va_G) (cI cZ cT : ClassId) (o a : Nat) (t : TT) (a1 : Int32) (a2 : Int32) (a3 : Int32) (r : Int32) (h : f_X2_secondsCanSettle t a1 a2 a3 = some r) : Met l yX2_secondsCanSettle (wq yX2_secondsCanSettle cX2_secondsCanSettle 6 (some .boolean)) rm_X2_secondsCanSettle (q_R D (q_tys cI cZ cT) (wT cI o a t) q_T [.ref o, .int a1, .int a2, .int a3]) (vp_Si (fun r' => r' = r)) 0 0 (fun _ => False) := by
  refine q_RI (cc := cX2_secondsCanSettle) (maxL := 6) (ret := (some .boolean)) (plainFor_of_name (by decide)) (Nat.le_of_ble_eq_true rfl) (fun p e s m below meth c C0 hP hK hE ls hl => ?_)
  have hl : lv_has ls 6 [(0, .ref o), (1, .int a1), (2, .int a2), (3, .int a3)] := hl
  obtain ⟨hx, hb, hr, hml, hown, hts, hlocks⟩ := id C0
  have hF : CallFix p m c cX2_secondsCanSettle 6 s _ BW RX2 := ⟨hx, hb, hml, hown, hts⟩
  rw [f_X2_secondsCanSettle] at h
  refine lv_aload_n hx hb dX2_secondsCanSettle_0 rfl (lv_at hl 0 rfl) ?_
  refine lv_bipush (v := 24) hx hb dX2_secondsCanSettle_1 (by decide) ?_
  refine lv_iload_n hx hb dX2_secondsCanSettle_3 rfl (lv_at hl 1 rfl) ?_
  obtain ⟨x1, h2, h⟩ := bE h
  refine x_RV (As := [.int (24 : Int32), .int a1]) (rest := []) hF (c_X2_read l D cI cZ cT o a t (24 : Int32) a1 x1 h2) (cwV 2 hts (gqV mw_65 mw_66 mw_67 mw_15 mw_61) rfl rfl rfl hd_X2_read ⟨Nat.le_of_ble_eq_true rfl, Nat.le_of_ble_eq_true rfl⟩) hK hP q_T_bl (fun _ _ _ => trivial) [0, 1] rfl rfl rfl rfl hl.1 rfl (Nat.le_of_ble_eq_true rfl) dX2_secondsCanSettle_4 ⟨Nat.zero_le _, Nat.zero_le _⟩ ?_
  refine lv_istore (lv' := [(4, .int x1), (0, .ref o), (1, .int a1), (2, .int a2), (3, .int a3)]) hx hb dX2_secondsCanSettle_7 hl (by decide) rfl (fun ls hl => ?_)
  refine lv_aload_n hx hb dX2_secondsCanSettle_9 rfl (lv_at hl 1 rfl) ?_
  refine lv_bipush (v := 24) hx hb dX2_secondsCanSettle_10 (by decide) ?_
  refine lv_iload_n hx hb dX2_secondsCanSettle_12 rfl (lv_at hl 3 rfl) ?_
  obtain ⟨x3, h4, h⟩ := bE h
  refine x_RV (As := [.int (24 : Int32), .int a2]) (rest := []) hF (c_X2_read l D cI cZ cT o a t (24 : Int32) a2 x3 h4) (cwV 2 hts (gqV mw_65 mw_66 mw_67 mw_15 mw_61) rfl rfl rfl hd_X2_read ⟨Nat.le_of_ble_eq_true rfl, Nat.le_of_ble_eq_true rfl⟩) hK hP q_T_bl (fun _ _ _ => trivial) [0, 1] rfl rfl rfl rfl hl.1 rfl (Nat.le_of_ble_eq_true rfl) dX2_secondsCanSettle_13 ⟨Nat.zero_le _, Nat.zero_le _⟩ ?_
  refine lv_istore (lv' := [(5, .int x3), (4, .int x1), (0, .ref o), (1, .int a1), (2, .int a2), (3, .int a3)]) hx hb dX2_secondsCanSettle_16 hl (by decide) rfl (fun ls hl => ?_)
  refine lv_iload hx hb dX2_secondsCanSettle_18 (lv_at hl 1 rfl) ?_
  refine lv_bipush (v := (-6)) hx hb dX2_secondsCanSettle_20 (by decide) ?_
  refine lv_icmp_eq (tgt := 51) hx hb dX2_secondsCanSettle_22 (by decide) (fun c5 => ?_) (fun c5 => ?_)
  · have h := xt c5 h
    refine lv_iconst (v := 0) hx hb dX2_secondsCanSettle_51 (by decide) ?_
    cases h
    exact x_retR C0 rfl dX2_secondsCanSettle_52
  · have h := xf c5 h
    refine lv_iload hx hb dX2_secondsCanSettle_25 (lv_at hl 0 rfl) ?_
    refine lv_bipush (v := (-6)) hx hb dX2_secondsCanSettle_27 (by decide) ?_
    refine lv_icmp_eq (tgt := 51) hx hb dX2_secondsCanSettle_29 (by decide) (fun c6 => ?_) (fun c6 => ?_)
    · have h := xt c6 h
      refine lv_iconst (v := 0) hx hb dX2_secondsCanSettle_51 (by decide) ?_
      cases h
      exact x_retR C0 rfl dX2_secondsCanSettle_52
    · have h := xf c6 h
      refine lv_iload hx hb dX2_secondsCanSettle_32 (lv_at hl 1 rfl) ?_
      refine lv_iload hx hb dX2_secondsCanSettle_34 (lv_at hl 0 rfl) ?_
      refine lv_icmp_eq (tgt := 51) hx hb dX2_secondsCanSettle_36 (by decide) (fun c7 => ?_) (fun c7 => ?_)
      · have h := xt c7 h
        refine lv_iconst (v := 0) hx hb dX2_secondsCanSettle_51 (by decide) ?_
        cases h
        exact x_retR C0 rfl dX2_secondsCanSettle_52
      · have h := xf c7 h
        refine lv_iload hx hb dX2_secondsCanSettle_39 (lv_at hl 1 rfl) ?_
        refine lv_iload_n hx hb dX2_secondsCanSettle_41 rfl (lv_at hl 4 rfl) ?_
        refine lv_icmp_eq (tgt := 51) hx hb dX2_secondsCanSettle_42 (by decide) (fun c8 => ?_) (fun c8 => ?_)
        · have h := xt c8 h
          refine lv_iconst (v := 0) hx hb dX2_secondsCanSettle_51 (by decide) ?_
          cases h
          exact x_retR C0 rfl dX2_secondsCanSettle_52
        · have h := xf c8 h
          refine lv_iload hx hb dX2_secondsCanSettle_45 (lv_at hl 0 rfl) ?_
          refine lv_iload_n hx hb dX2_secondsCanSettle_47 rfl (lv_at hl 3 rfl) ?_
          refine lv_icmp_ne (tgt := 53) hx hb dX2_secondsCanSettle_48 (by decide) (fun c9 => ?_) (fun c9 => ?_)
          · have h := xf c9 h
            refine lv_aload_n hx hb dX2_secondsCanSettle_53 rfl (lv_at hl 2 rfl) ?_
            refine lv_bipush (v := 14) hx hb dX2_secondsCanSettle_54 (by decide) ?_
            refine lv_iload hx hb dX2_secondsCanSettle_56 (lv_at hl 1 rfl) ?_
            obtain ⟨x10, h11, h⟩ := bE h
            refine x_RV (As := [.int (14 : Int32), .int x1]) (rest := []) hF (c_X2_read l D cI cZ cT o a t (14 : Int32) x1 x10 h11) (cwV 2 hts (gqV mw_65 mw_66 mw_67 mw_15 mw_61) rfl rfl rfl hd_X2_read ⟨Nat.le_of_ble_eq_true rfl, Nat.le_of_ble_eq_true rfl⟩) hK hP q_T_bl (fun _ _ _ => trivial) [0, 1] rfl rfl rfl rfl hl.1 rfl (Nat.le_of_ble_eq_true rfl) dX2_secondsCanSettle_58 ⟨Nat.zero_le _, Nat.zero_le _⟩ ?_
            refine lv_aload_n hx hb dX2_secondsCanSettle_61 rfl (lv_at hl 2 rfl) ?_
            refine lv_bipush (v := 14) hx hb dX2_secondsCanSettle_62 (by decide) ?_
            refine lv_iload hx hb dX2_secondsCanSettle_64 (lv_at hl 0 rfl) ?_
            obtain ⟨x12, h13, h⟩ := bE h
            refine x_RV (As := [.int (14 : Int32), .int x3]) (rest := [.int x10]) hF (c_X2_read l D cI cZ cT o a t (14 : Int32) x3 x12 h13) (cwV 2 hts (gqV mw_65 mw_66 mw_67 mw_15 mw_61) rfl rfl rfl hd_X2_read ⟨Nat.le_of_ble_eq_true rfl, Nat.le_of_ble_eq_true rfl⟩) hK hP q_T_bl (fun _ _ _ => trivial) [0, 1] rfl rfl rfl rfl hl.1 rfl (Nat.le_of_ble_eq_true rfl) dX2_secondsCanSettle_66 ⟨Nat.zero_le _, Nat.zero_le _⟩ ?_
            refine lv_iadd hx hb dX2_secondsCanSettle_69 ?_
            refine lv_iconst (v := 2) hx hb dX2_secondsCanSettle_70 (by decide) ?_
            refine lv_iload_n hx hb dX2_secondsCanSettle_71 rfl (lv_at hl 5 rfl) ?_
            refine lv_imul hx hb dX2_secondsCanSettle_72 ?_
            refine lv_icmp_lt (tgt := 80) hx hb dX2_secondsCanSettle_73 (by decide) (fun c14 => ?_) (fun c14 => ?_)
            · have h := xt c14 h
              refine lv_iconst (v := 0) hx hb dX2_secondsCanSettle_80 (by decide) ?_
              cases h
              exact x_retR C0 rfl dX2_secondsCanSettle_81
            · have h := xf c14 h
              refine lv_iconst (v := 1) hx hb dX2_secondsCanSettle_76 (by decide) ?_
              refine lv_goto (tgt := 81) hx hb dX2_secondsCanSettle_77 (by decide) ?_
              cases h
              exact x_retR C0 rfl dX2_secondsCanSettle_81
          · have h := xt c9 h
            refine lv_iconst (v := 0) hx hb dX2_secondsCanSettle_51 (by decide) ?_
            cases h
            exact x_retR C0 rfl dX2_secondsCanSettle_52

/-! QuarrelWays.Town.peaceLeft (II)I -/
def f_X2_peaceLeft_L5 (z0 : TT) (y1 : Int32) (y2 : Int32) : Nat → Int32 → Int32 → Option (Int32)
  | 0, _, _ => none
  | n + 1, y3, y4 => (if z0.2.2.2.1 ≤ y4 then some y3 else ((f_X2_read z0 (92 : Int32) y4).bind fun x2 => (if x2 = (1 : Int32) then ((f_X2_read z0 (44 : Int32) y4).bind fun x5 => ((f_X2_read z0 (56 : Int32) y4).bind fun x7 => ((f_X2_areThese y1 y2 x5 x7).bind fun x9 => (if x9 = 0 then f_X2_peaceLeft_L5 z0 y1 y2 n y3 (y4 + (1 : Int32)) else ((f_X2_read z0 (116 : Int32) y4).bind fun x12 => ((f_X2_read z0 (0 : Int32) (3 : Int32)).bind fun x14 => f_X2_peaceLeft_L5 z0 y1 y2 n (if y3 < ((x12 + x14) - z0.1) then ((x12 + x14) - z0.1) else y3) (y4 + (1 : Int32)))))))) else f_X2_peaceLeft_L5 z0 y1 y2 n y3 (y4 + (1 : Int32)))))
def f_X2_peaceLeft (t : TT) (a1 : Int32) (a2 : Int32) : Option (Int32) := ((f_X2_peaceLeft_L5 t a1 a2 2000 (-1 : Int32) (0 : Int32)).bind fun v16 => some v16)
abbrev rm_X2_peaceLeft : Room := { frames := 1, cells := 0, slots := 0, locals := 24 }
theorem hd_X2_peaceLeft : yX2_peaceLeft.cls = RX2 ∧ yX2_peaceLeft.cls ≠ "java/lang/invoke/MethodHandle" ∧ yX2_peaceLeft.cls ≠ "java/lang/invoke/VarHandle" ∧ (parseMethodDescriptor yX2_peaceLeft.desc).map (fun d => d.parameters.length) = some 2 := by decide +kernel
set_option maxHeartbeats 4000000 in
set_option maxRecDepth 100000 in
theorem k_X2_peaceLeft_L5 {Q : State → Prop} {v : Int32} (o a : Nat) (z0 : TT) (y1 : Int32) (y2 : Int32) (C0 : q_At p s m args meth c cX2_peaceLeft 5 (some .int) RX2) (hK : va_K D vwCl (q_tys cI cZ cT) s) (hP : va_P D vwCl (wT cI o a z0) s.heap) (hj : ∀ (ls : Array Slot), lv_has ls 5 [(3, .int v)] → W p l e rm_X2_peaceLeft s m args below meth c s.heap [] 0 0 Q (F0 m 81 ls [])) : ∀ (n : Nat) (y3 : Int32) (y4 : Int32) (ls : Array Slot), lv_has ls 5 [(0, .ref o), (1, .int y1), (2, .int y2), (3, .int y3), (4, .int y4)] → f_X2_peaceLeft_L5 z0 y1 y2 n y3 y4 = some v → W p l e rm_X2_peaceLeft s m args below meth c s.heap [] 0 0 (Q) (F0 m 5 ls []) := by
  obtain ⟨hx, hb, hr, hml, hown, hts, hlocks⟩ := id C0
  have hF : CallFix p m c cX2_peaceLeft 5 s args BW RX2 := ⟨hx, hb, hml, hown, hts⟩
  intro n
  induction n with
  | zero =>
    intro y3 y4 ls hl h
    rw [f_X2_peaceLeft_L5] at h
    cases h
  | succ n ih =>
    intro y3 y4 ls hl h
    rw [f_X2_peaceLeft_L5] at h
    refine lv_iload hx hb dX2_peaceLeft_5 (lv_at hl 4 rfl) ?_
    refine lv_aload_n hx hb dX2_peaceLeft_7 rfl (lv_at hl 0 rfl) ?_
    refine va_get (D := D) (v := .int z0.2.2.2.1) (C := RX2) (T := TX2) (N := 6) hx hb hts iw_X2 hown hK hP 0 rfl rfl 3 (by decide) (hts _ mw_9) (fun _ h9 => h9) rfl dX2_peaceLeft_8 ?_
    refine lv_icmp_ge (tgt := 81) hx hb dX2_peaceLeft_11 (by decide) (fun c1 => ?_) (fun c1 => ?_)
    · have h := xt c1 h
      cases h
      exact hj _ (lv_sub hl [3] rfl)
    · have h := xf c1 h
      refine lv_aload_n hx hb dX2_peaceLeft_14 rfl (lv_at hl 0 rfl) ?_
      refine lv_bipush (v := 92) hx hb dX2_peaceLeft_15 (by decide) ?_
      refine lv_iload hx hb dX2_peaceLeft_17 (lv_at hl 4 rfl) ?_
      obtain ⟨x2, h3, h⟩ := bE h
      refine x_RV (As := [.int (92 : Int32), .int y4]) (rest := []) hF (c_X2_read l D cI cZ cT o a z0 (92 : Int32) y4 x2 h3) (cwV 2 hts (gqV mw_65 mw_66 mw_67 mw_15 mw_61) rfl rfl rfl hd_X2_read ⟨Nat.le_of_ble_eq_true rfl, Nat.le_of_ble_eq_true rfl⟩) hK hP q_T_bl (fun _ _ _ => trivial) [0, 1] rfl rfl rfl rfl hl.1 rfl (Nat.le_of_ble_eq_true rfl) dX2_peaceLeft_19 ⟨Nat.zero_le _, Nat.zero_le _⟩ ?_
      refine lv_iconst (v := 1) hx hb dX2_peaceLeft_22 (by decide) ?_
      refine lv_icmp_ne (tgt := 75) hx hb dX2_peaceLeft_23 (by decide) (fun c4 => ?_) (fun c4 => ?_)
      · have h := xf c4 h
        refine lv_iinc (v := (y4 + (1 : Int32))) (lv' := [(4, .int (y4 + (1 : Int32))), (0, .ref o), (1, .int y1), (2, .int y2), (3, .int y3)]) hx hb dX2_peaceLeft_75 hl (k := 4) rfl rfl (by decide) rfl (fun ls hl => ?_)
        refine lv_goto (tgt := 5) hx hb dX2_peaceLeft_78 (by decide) ?_
        exact ih y3 (y4 + (1 : Int32)) _ (lv_sub hl [1, 2, 3, 4, 0] rfl) h
      · have h := xt c4 h
        refine lv_iload_n hx hb dX2_peaceLeft_26 rfl (lv_at hl 1 rfl) ?_
        refine lv_iload_n hx hb dX2_peaceLeft_27 rfl (lv_at hl 2 rfl) ?_
        refine lv_aload_n hx hb dX2_peaceLeft_28 rfl (lv_at hl 0 rfl) ?_
        refine lv_bipush (v := 44) hx hb dX2_peaceLeft_29 (by decide) ?_
        refine lv_iload hx hb dX2_peaceLeft_31 (lv_at hl 4 rfl) ?_
        obtain ⟨x5, h6, h⟩ := bE h
        refine x_RV (As := [.int (44 : Int32), .int y4]) (rest := [.int y2, .int y1]) hF (c_X2_read l D cI cZ cT o a z0 (44 : Int32) y4 x5 h6) (cwV 2 hts (gqV mw_65 mw_66 mw_67 mw_15 mw_61) rfl rfl rfl hd_X2_read ⟨Nat.le_of_ble_eq_true rfl, Nat.le_of_ble_eq_true rfl⟩) hK hP q_T_bl (fun _ _ _ => trivial) [0, 1] rfl rfl rfl rfl hl.1 rfl (Nat.le_of_ble_eq_true rfl) dX2_peaceLeft_33 ⟨Nat.zero_le _, Nat.zero_le _⟩ ?_
        refine lv_aload_n hx hb dX2_peaceLeft_36 rfl (lv_at hl 0 rfl) ?_
        refine lv_bipush (v := 56) hx hb dX2_peaceLeft_37 (by decide) ?_
        refine lv_iload hx hb dX2_peaceLeft_39 (lv_at hl 4 rfl) ?_
        obtain ⟨x7, h8, h⟩ := bE h
        refine x_RV (As := [.int (56 : Int32), .int y4]) (rest := [.int x5, .int y2, .int y1]) hF (c_X2_read l D cI cZ cT o a z0 (56 : Int32) y4 x7 h8) (cwV 2 hts (gqV mw_65 mw_66 mw_67 mw_15 mw_61) rfl rfl rfl hd_X2_read ⟨Nat.le_of_ble_eq_true rfl, Nat.le_of_ble_eq_true rfl⟩) hK hP q_T_bl (fun _ _ _ => trivial) [0, 1] rfl rfl rfl rfl hl.1 rfl (Nat.le_of_ble_eq_true rfl) dX2_peaceLeft_41 ⟨Nat.zero_le _, Nat.zero_le _⟩ ?_
        obtain ⟨x9, h10, h⟩ := bE h
        refine x_RS (As := [.int y1, .int y2, .int x5, .int x7]) (rest := []) hF (c_X2_areThese l D cI cZ cT  y1 y2 x5 x7 x9 h10) (va_cwS 4 hts (gqS mw_95 mw_96 mw_15 mw_76) rfl rfl rfl hd_X2_areThese.2 ⟨Nat.le_of_ble_eq_true rfl, Nat.le_of_ble_eq_true rfl⟩) hK hP q_T_bl (fun _ _ _ => trivial) [] rfl rfl hl.1 rfl (Nat.le_of_ble_eq_true rfl) dX2_peaceLeft_44 ⟨Nat.zero_le _, Nat.zero_le _⟩ ?_
        refine lv_if_eq (tgt := 75) hx hb dX2_peaceLeft_47 (by decide) (fun c11 => ?_) (fun c11 => ?_)
        · have h := xt c11 h
          refine lv_iinc (v := (y4 + (1 : Int32))) (lv' := [(4, .int (y4 + (1 : Int32))), (0, .ref o), (1, .int y1), (2, .int y2), (3, .int y3)]) hx hb dX2_peaceLeft_75 hl (k := 4) rfl rfl (by decide) rfl (fun ls hl => ?_)
          refine lv_goto (tgt := 5) hx hb dX2_peaceLeft_78 (by decide) ?_
          exact ih y3 (y4 + (1 : Int32)) _ (lv_sub hl [1, 2, 3, 4, 0] rfl) h
        · have h := xf c11 h
          refine lv_iload_n hx hb dX2_peaceLeft_50 rfl (lv_at hl 3 rfl) ?_
          refine lv_aload_n hx hb dX2_peaceLeft_51 rfl (lv_at hl 0 rfl) ?_
          refine lv_bipush (v := 116) hx hb dX2_peaceLeft_52 (by decide) ?_
          refine lv_iload hx hb dX2_peaceLeft_54 (lv_at hl 4 rfl) ?_
          obtain ⟨x12, h13, h⟩ := bE h
          refine x_RV (As := [.int (116 : Int32), .int y4]) (rest := [.int y3]) hF (c_X2_read l D cI cZ cT o a z0 (116 : Int32) y4 x12 h13) (cwV 2 hts (gqV mw_65 mw_66 mw_67 mw_15 mw_61) rfl rfl rfl hd_X2_read ⟨Nat.le_of_ble_eq_true rfl, Nat.le_of_ble_eq_true rfl⟩) hK hP q_T_bl (fun _ _ _ => trivial) [0, 1] rfl rfl rfl rfl hl.1 rfl (Nat.le_of_ble_eq_true rfl) dX2_peaceLeft_56 ⟨Nat.zero_le _, Nat.zero_le _⟩ ?_
          refine lv_aload_n hx hb dX2_peaceLeft_59 rfl (lv_at hl 0 rfl) ?_
          refine lv_iconst (v := 0) hx hb dX2_peaceLeft_60 (by decide) ?_
          refine lv_iconst (v := 3) hx hb dX2_peaceLeft_61 (by decide) ?_
          obtain ⟨x14, h15, h⟩ := bE h
          refine x_RV (As := [.int (0 : Int32), .int (3 : Int32)]) (rest := [.int x12, .int y3]) hF (c_X2_read l D cI cZ cT o a z0 (0 : Int32) (3 : Int32) x14 h15) (cwV 2 hts (gqV mw_65 mw_66 mw_67 mw_15 mw_61) rfl rfl rfl hd_X2_read ⟨Nat.le_of_ble_eq_true rfl, Nat.le_of_ble_eq_true rfl⟩) hK hP q_T_bl (fun _ _ _ => trivial) [0, 1] rfl rfl rfl rfl hl.1 rfl (Nat.le_of_ble_eq_true rfl) dX2_peaceLeft_62 ⟨Nat.zero_le _, Nat.zero_le _⟩ ?_
          refine lv_iadd hx hb dX2_peaceLeft_65 ?_
          refine lv_aload_n hx hb dX2_peaceLeft_66 rfl (lv_at hl 0 rfl) ?_
          refine va_get (D := D) (v := .int z0.1) (C := RX2) (T := TX2) (N := 6) hx hb hts iw_X2 hown hK hP 0 rfl rfl 0 (by decide) (hts _ mw_6) (fun _ h9 => h9) rfl dX2_peaceLeft_67 ?_
          refine lv_isub hx hb dX2_peaceLeft_70 ?_
          refine va_mmax hx hb (hml.trans hl.1.symm) hown (hts _ mw_71) (hts _ mw_72) (hts _ mw_28) (hts _ mw_73) (Nat.le_of_ble_eq_true rfl) (Nat.le_of_ble_eq_true rfl) (Nat.zero_le _) (Nat.zero_le _) dX2_peaceLeft_71 ?_
          refine lv_istore_n (lv' := [(3, .int (if y3 < ((x12 + x14) - z0.1) then ((x12 + x14) - z0.1) else y3)), (0, .ref o), (1, .int y1), (2, .int y2), (4, .int y4)]) hx hb dX2_peaceLeft_74 rfl hl (by decide) rfl (fun ls hl => ?_)
          refine lv_iinc (v := (y4 + (1 : Int32))) (lv' := [(4, .int (y4 + (1 : Int32))), (3, .int (if y3 < ((x12 + x14) - z0.1) then ((x12 + x14) - z0.1) else y3)), (0, .ref o), (1, .int y1), (2, .int y2)]) hx hb dX2_peaceLeft_75 hl (k := 4) rfl rfl (by decide) rfl (fun ls hl => ?_)
          refine lv_goto (tgt := 5) hx hb dX2_peaceLeft_78 (by decide) ?_
          exact ih (if y3 < ((x12 + x14) - z0.1) then ((x12 + x14) - z0.1) else y3) (y4 + (1 : Int32)) _ (lv_sub hl [2, 3, 4, 1, 0] rfl) h
set_option maxHeartbeats 4000000 in
set_option maxRecDepth 100000 in
theorem c_X2_peaceLeft (l : Launch) (D : va_G) (cI cZ cT : ClassId) (o a : Nat) (t : TT) (a1 : Int32) (a2 : Int32) (r : Int32) (h : f_X2_peaceLeft t a1 a2 = some r) : Met l yX2_peaceLeft (wq yX2_peaceLeft cX2_peaceLeft 5 (some .int)) rm_X2_peaceLeft (q_R D (q_tys cI cZ cT) (wT cI o a t) q_T [.ref o, .int a1, .int a2]) (vp_Si (fun r' => r' = r)) 0 0 (fun _ => False) := by
  refine q_RI (cc := cX2_peaceLeft) (maxL := 5) (ret := (some .int)) (plainFor_of_name (by decide)) (Nat.le_of_ble_eq_true rfl) (fun p e s m below meth c C0 hP hK hE ls hl => ?_)
  have hl : lv_has ls 5 [(0, .ref o), (1, .int a1), (2, .int a2)] := hl
  obtain ⟨hx, hb, hr, hml, hown, hts, hlocks⟩ := id C0
  have hF : CallFix p m c cX2_peaceLeft 5 s _ BW RX2 := ⟨hx, hb, hml, hown, hts⟩
  rw [f_X2_peaceLeft] at h
  refine lv_iconst (v := (-1)) hx hb dX2_peaceLeft_0 (by decide) ?_
  refine lv_istore_n (lv' := [(3, .int (-1 : Int32)), (0, .ref o), (1, .int a1), (2, .int a2)]) hx hb dX2_peaceLeft_1 rfl hl (by decide) rfl (fun ls hl => ?_)
  refine lv_iconst (v := 0) hx hb dX2_peaceLeft_2 (by decide) ?_
  refine lv_istore (lv' := [(4, .int (0 : Int32)), (3, .int (-1 : Int32)), (0, .ref o), (1, .int a1), (2, .int a2)]) hx hb dX2_peaceLeft_3 hl (by decide) rfl (fun ls hl => ?_)
  obtain ⟨v16, h17, h⟩ := bE h
  refine k_X2_peaceLeft_L5 (v := v16) o a t a1 a2 C0 hK hP (fun ls hl => ?_) 2000 (-1 : Int32) (0 : Int32) _ (lv_sub hl [2, 3, 4, 1, 0] rfl) h17
  refine lv_iload_n hx hb dX2_peaceLeft_81 rfl (lv_at hl 0 rfl) ?_
  cases h
  exact x_retR C0 rfl dX2_peaceLeft_82

end G_T1

section G_LA
variable {p : Program} {l : Launch} {e : Env} {s : State} {m : MethodId} {args : Array Value} {below : List Frame} {meth : Method} {c : Code} {D : va_G} {cI cZ cT : ClassId}

/-! QuarrelWaysLaw.low (II)I -/
def f_L_low (a0 : Int32) (a1 : Int32) : Option (Int32) := (if a1 = 0 then none else some ((a0 &&& (2147483647 : Int32)) - (a0 &&& (2147483647 : Int32)) / a1 * a1))
abbrev rm_L_low : Room := { frames := 0, cells := 0, slots := 0, locals := 0 }
theorem hd_L_low : yL_low.cls = RL ∧ yL_low.cls ≠ "java/lang/invoke/MethodHandle" ∧ yL_low.cls ≠ "java/lang/invoke/VarHandle" ∧ (parseMethodDescriptor yL_low.desc).map (fun d => d.parameters.length) = some 2 := by decide +kernel
set_option maxHeartbeats 4000000 in
set_option maxRecDepth 100000 in
theorem c_L_low (l : Launch) (D : va_G) (cI cZ cT : ClassId) (a0 : Int32) (a1 : Int32) (r : Int32) (h : f_L_low a0 a1 = some r) : Met l yL_low (wq yL_low cL_low 2 (some .int)) rm_L_low (q_R D (q_tys cI cZ cT) ([]) q_T [.int a0, .int a1]) (vp_Si (fun r' => r' = r)) 0 0 (fun _ => False) := by
  refine q_RI (cc := cL_low) (maxL := 2) (ret := (some .int)) (plainFor_of_name (by decide)) (Nat.le_of_ble_eq_true rfl) (fun p e s m below meth c C0 hP hK hE ls hl => ?_)
  have hl : lv_has ls 2 [(0, .int a0), (1, .int a1)] := hl
  obtain ⟨hx, hb, hr, hml, hown, hts, hlocks⟩ := id C0
  have hF : CallFix p m c cL_low 2 s _ BW RL := ⟨hx, hb, hml, hown, hts⟩
  rw [f_L_low] at h
  refine lv_iload_n hx hb dL_low_0 rfl (lv_at hl 0 rfl) ?_
  refine lv_ldc (v := (2147483647 : Int32)) hx hb hown (hts _ mw_302) dL_low_1 ?_
  refine lv_iand hx hb dL_low_3 ?_
  refine lv_iload_n hx hb dL_low_4 rfl (lv_at hl 1 rfl) ?_
  by_cases c1 : a1 = 0
  · have h := xt c1 h
    cases h
  have h := xf c1 h
  refine lv_irem hx hb dL_low_5 c1 ?_
  cases h
  exact x_retR C0 rfl dL_low_6

/-! QuarrelWaysLaw.mild (I)I -/
def f_L_mild (a0 : Int32) : Option (Int32) := (if a0 = (-5 : Int32) then some (0 : Int32) else (if a0 = (-4 : Int32) then some (0 : Int32) else (if a0 = (-6 : Int32) then some (0 : Int32) else some a0)))
abbrev rm_L_mild : Room := { frames := 0, cells := 0, slots := 0, locals := 0 }
theorem hd_L_mild : yL_mild.cls = RL ∧ yL_mild.cls ≠ "java/lang/invoke/MethodHandle" ∧ yL_mild.cls ≠ "java/lang/invoke/VarHandle" ∧ (parseMethodDescriptor yL_mild.desc).map (fun d => d.parameters.length) = some 1 := by decide +kernel
set_option maxHeartbeats 4000000 in
set_option maxRecDepth 100000 in
theorem c_L_mild (l : Launch) (D : va_G) (cI cZ cT : ClassId) (a0 : Int32) (r : Int32) (h : f_L_mild a0 = some r) : Met l yL_mild (wq yL_mild cL_mild 1 (some .int)) rm_L_mild (q_R D (q_tys cI cZ cT) ([]) q_T [.int a0]) (vp_Si (fun r' => r' = r)) 0 0 (fun _ => False) := by
  refine q_RI (cc := cL_mild) (maxL := 1) (ret := (some .int)) (plainFor_of_name (by decide)) (Nat.le_of_ble_eq_true rfl) (fun p e s m below meth c C0 hP hK hE ls hl => ?_)
  have hl : lv_has ls 1 [(0, .int a0)] := hl
  obtain ⟨hx, hb, hr, hml, hown, hts, hlocks⟩ := id C0
  have hF : CallFix p m c cL_mild 1 s _ BW RL := ⟨hx, hb, hml, hown, hts⟩
  rw [f_L_mild] at h
  refine lv_iload_n hx hb dL_mild_0 rfl (lv_at hl 0 rfl) ?_
  refine lv_bipush (v := (-5)) hx hb dL_mild_1 (by decide) ?_
  refine lv_icmp_eq (tgt := 18) hx hb dL_mild_3 (by decide) (fun c1 => ?_) (fun c1 => ?_)
  · have h := xt c1 h
    refine lv_iconst (v := 0) hx hb dL_mild_18 (by decide) ?_
    refine lv_goto (tgt := 23) hx hb dL_mild_19 (by decide) ?_
    cases h
    exact x_retR C0 rfl dL_mild_23
  · have h := xf c1 h
    refine lv_iload_n hx hb dL_mild_6 rfl (lv_at hl 0 rfl) ?_
    refine lv_bipush (v := (-4)) hx hb dL_mild_7 (by decide) ?_
    refine lv_icmp_eq (tgt := 18) hx hb dL_mild_9 (by decide) (fun c2 => ?_) (fun c2 => ?_)
    · have h := xt c2 h
      refine lv_iconst (v := 0) hx hb dL_mild_18 (by decide) ?_
      refine lv_goto (tgt := 23) hx hb dL_mild_19 (by decide) ?_
      cases h
      exact x_retR C0 rfl dL_mild_23
    · have h := xf c2 h
      refine lv_iload_n hx hb dL_mild_12 rfl (lv_at hl 0 rfl) ?_
      refine lv_bipush (v := (-6)) hx hb dL_mild_13 (by decide) ?_
      refine lv_icmp_ne (tgt := 22) hx hb dL_mild_15 (by decide) (fun c3 => ?_) (fun c3 => ?_)
      · have h := xf c3 h
        refine lv_iload_n hx hb dL_mild_22 rfl (lv_at hl 0 rfl) ?_
        cases h
        exact x_retR C0 rfl dL_mild_23
      · have h := xt c3 h
        refine lv_iconst (v := 0) hx hb dL_mild_18 (by decide) ?_
        refine lv_goto (tgt := 23) hx hb dL_mild_19 (by decide) ?_
        cases h
        exact x_retR C0 rfl dL_mild_23

/-! QuarrelWaysLaw.bits (I)I -/
def f_L_bits_L4 (y0 : Int32) : Nat → Int32 → Int32 → Option (Int32)
  | 0, _, _ => none
  | n + 1, y1, y2 => (if (16 : Int32) ≤ y2 then some y1 else f_L_bits_L4 y0 n (y1 + ((y0 >>> (y2 &&& 31)) &&& (1 : Int32))) (y2 + (1 : Int32)))
def f_L_bits (a0 : Int32) : Option (Int32) := ((f_L_bits_L4 a0 2000 (0 : Int32) (0 : Int32)).bind fun v2 => some v2)
abbrev rm_L_bits : Room := { frames := 0, cells := 0, slots := 0, locals := 0 }
theorem hd_L_bits : yL_bits.cls = RL ∧ yL_bits.cls ≠ "java/lang/invoke/MethodHandle" ∧ yL_bits.cls ≠ "java/lang/invoke/VarHandle" ∧ (parseMethodDescriptor yL_bits.desc).map (fun d => d.parameters.length) = some 1 := by decide +kernel
set_option maxHeartbeats 4000000 in
set_option maxRecDepth 100000 in
theorem k_L_bits_L4 {Q : State → Prop} {v : Int32} (y0 : Int32) (C0 : q_At p s m args meth c cL_bits 3 (some .int) RL) (hK : va_K D vwCl (q_tys cI cZ cT) s) (hP : va_P D vwCl ([]) s.heap) (hj : ∀ (ls : Array Slot), lv_has ls 3 [(1, .int v)] → W p l e rm_L_bits s m args below meth c s.heap [] 0 0 Q (F0 m 24 ls [])) : ∀ (n : Nat) (y1 : Int32) (y2 : Int32) (ls : Array Slot), lv_has ls 3 [(0, .int y0), (1, .int y1), (2, .int y2)] → f_L_bits_L4 y0 n y1 y2 = some v → W p l e rm_L_bits s m args below meth c s.heap [] 0 0 (Q) (F0 m 4 ls []) := by
  obtain ⟨hx, hb, hr, hml, hown, hts, hlocks⟩ := id C0
  have hF : CallFix p m c cL_bits 3 s args BW RL := ⟨hx, hb, hml, hown, hts⟩
  intro n
  induction n with
  | zero =>
    intro y1 y2 ls hl h
    rw [f_L_bits_L4] at h
    cases h
  | succ n ih =>
    intro y1 y2 ls hl h
    rw [f_L_bits_L4] at h
    refine lv_iload_n hx hb dL_bits_4 rfl (lv_at hl 2 rfl) ?_
    refine lv_bipush (v := 16) hx hb dL_bits_5 (by decide) ?_
    refine lv_icmp_ge (tgt := 24) hx hb dL_bits_7 (by decide) (fun c1 => ?_) (fun c1 => ?_)
    · have h := xt c1 h
      cases h
      exact hj _ (lv_sub hl [1] rfl)
    · have h := xf c1 h
      refine lv_iload_n hx hb dL_bits_10 rfl (lv_at hl 1 rfl) ?_
      refine lv_iload_n hx hb dL_bits_11 rfl (lv_at hl 0 rfl) ?_
      refine lv_iload_n hx hb dL_bits_12 rfl (lv_at hl 2 rfl) ?_
      refine lv_ishr hx hb dL_bits_13 ?_
      refine lv_iconst (v := 1) hx hb dL_bits_14 (by decide) ?_
      refine lv_iand hx hb dL_bits_15 ?_
      refine lv_iadd hx hb dL_bits_16 ?_
      refine lv_istore_n (lv' := [(1, .int (y1 + ((y0 >>> (y2 &&& 31)) &&& (1 : Int32)))), (0, .int y0), (2, .int y2)]) hx hb dL_bits_17 rfl hl (by decide) rfl (fun ls hl => ?_)
      refine lv_iinc (v := (y2 + (1 : Int32))) (lv' := [(2, .int (y2 + (1 : Int32))), (1, .int (y1 + ((y0 >>> (y2 &&& 31)) &&& (1 : Int32)))), (0, .int y0)]) hx hb dL_bits_18 hl (k := 2) rfl rfl (by decide) rfl (fun ls hl => ?_)
      refine lv_goto (tgt := 4) hx hb dL_bits_21 (by decide) ?_
      exact ih (y1 + ((y0 >>> (y2 &&& 31)) &&& (1 : Int32))) (y2 + (1 : Int32)) _ (lv_sub hl [2, 1, 0] rfl) h
set_option maxHeartbeats 4000000 in
set_option maxRecDepth 100000 in
theorem c_L_bits (l : Launch) (D : va_G) (cI cZ cT : ClassId) (a0 : Int32) (r : Int32) (h : f_L_bits a0 = some r) : Met l yL_bits (wq yL_bits cL_bits 3 (some .int)) rm_L_bits (q_R D (q_tys cI cZ cT) ([]) q_T [.int a0]) (vp_Si (fun r' => r' = r)) 0 0 (fun _ => False) := by
  refine q_RI (cc := cL_bits) (maxL := 3) (ret := (some .int)) (plainFor_of_name (by decide)) (Nat.le_of_ble_eq_true rfl) (fun p e s m below meth c C0 hP hK hE ls hl => ?_)
  have hl : lv_has ls 3 [(0, .int a0)] := hl
  obtain ⟨hx, hb, hr, hml, hown, hts, hlocks⟩ := id C0
  have hF : CallFix p m c cL_bits 3 s _ BW RL := ⟨hx, hb, hml, hown, hts⟩
  rw [f_L_bits] at h
  refine lv_iconst (v := 0) hx hb dL_bits_0 (by decide) ?_
  refine lv_istore_n (lv' := [(1, .int (0 : Int32)), (0, .int a0)]) hx hb dL_bits_1 rfl hl (by decide) rfl (fun ls hl => ?_)
  refine lv_iconst (v := 0) hx hb dL_bits_2 (by decide) ?_
  refine lv_istore_n (lv' := [(2, .int (0 : Int32)), (1, .int (0 : Int32)), (0, .int a0)]) hx hb dL_bits_3 rfl hl (by decide) rfl (fun ls hl => ?_)
  obtain ⟨v2, h3, h⟩ := bE h
  refine k_L_bits_L4 (v := v2) a0 C0 hK hP (fun ls hl => ?_) 2000 (0 : Int32) (0 : Int32) _ (lv_sub hl [2, 1, 0] rfl) h3
  refine lv_iload_n hx hb dL_bits_24 rfl (lv_at hl 0 rfl) ?_
  cases h
  exact x_retR C0 rfl dL_bits_25

end G_LA

section G_H
variable {p : Program} {l : Launch} {e : Env} {s : State} {m : MethodId} {args : Array Value} {below : List Frame} {meth : Method} {c : Code} {D : va_G} {cI cZ cT : ClassId}

/-! QuarrelWays.History.placeOf (I)I -/
def f_X0_placeOf (hh : HH) (a1 : Int32) : Option (Int32) := ((f_J9_floorMod_7cf53 (hh.1 + a1) (7 : Int32)).bind fun x1 => some x1)
abbrev rm_X0_placeOf : Room := { frames := 1, cells := 0, slots := 0, locals := 22 }
theorem hd_X0_placeOf : yX0_placeOf.cls = RX0 ∧ yX0_placeOf.cls ≠ "java/lang/invoke/MethodHandle" ∧ yX0_placeOf.cls ≠ "java/lang/invoke/VarHandle" ∧ (parseMethodDescriptor yX0_placeOf.desc).map (fun d => d.parameters.length) = some 1 := by decide +kernel
set_option maxHeartbeats 4000000 in
set_option maxRecDepth 100000 in
theorem c_X0_placeOf (l : Launch) (D : va_G) (cI cZ cT : ClassId) (hs hst : Nat) (ta ca : Nat → Nat) (hh : HH) (a1 : Int32) (r : Int32) (h : f_X0_placeOf hh a1 = some r) : Met l yX0_placeOf (wq yX0_placeOf cX0_placeOf 2 (some .int)) rm_X0_placeOf (q_R D (q_tys cI cZ cT) (wH cI cT hs hst ta ca hh) q_T [.ref hs, .int a1]) (vp_Si (fun r' => r' = r)) 0 0 (fun _ => False) := by
  refine q_RI (cc := cX0_placeOf) (maxL := 2) (ret := (some .int)) (plainFor_of_name (by decide)) (Nat.le_of_ble_eq_true rfl) (fun p e s m below meth c C0 hP hK hE ls hl => ?_)
  have hl : lv_has ls 2 [(0, .ref hs), (1, .int a1)] := hl
  obtain ⟨hx, hb, hr, hml, hown, hts, hlocks⟩ := id C0
  have hF : CallFix p m c cX0_placeOf 2 s _ BW RX0 := ⟨hx, hb, hml, hown, hts⟩
  rw [f_X0_placeOf] at h
  refine lv_aload_n hx hb dX0_placeOf_0 rfl (lv_at hl 0 rfl) ?_
  refine va_get (D := D) (v := .int hh.1) (C := RX0) (T := TX0) (N := 3) hx hb hts iw_X0 hown hK hP 0 rfl rfl 1 (by decide) (hts _ mw_20) (fun _ h9 => h9) rfl dX0_placeOf_1 ?_
  refine lv_iload_n hx hb dX0_placeOf_4 rfl (lv_at hl 1 rfl) ?_
  refine lv_iadd hx hb dX0_placeOf_5 ?_
  refine lv_bipush (v := 7) hx hb dX0_placeOf_6 (by decide) ?_
  obtain ⟨x1, h2, h⟩ := bE h
  refine x_RS (As := [.int (hh.1 + a1), .int (7 : Int32)]) (rest := []) hF (c_J9_floorMod_7cf53 l D cI cZ cT  (hh.1 + a1) (7 : Int32) x1 h2) (va_cwS 2 hts (gqS mw_26 mw_27 mw_28 mw_24) rfl rfl rfl hd_J9_floorMod_7cf53.2 ⟨Nat.le_of_ble_eq_true rfl, Nat.le_of_ble_eq_true rfl⟩) hK hP q_T_bl (fun _ _ _ => trivial) [] rfl rfl hl.1 rfl (Nat.le_of_ble_eq_true rfl) dX0_placeOf_8 ⟨Nat.zero_le _, Nat.zero_le _⟩ ?_
  cases h
  exact x_retR C0 rfl dX0_placeOf_11

/-! QuarrelWays.History.stateAt (I)LQuarrelWays$Town; -/
def f_X0_stateAt (hh : HH) (a1 : Int32) : Option (Int32) := ((f_X0_placeOf hh a1).bind fun x1 => (if x1 < 0 then some (-1 : Int32) else (if (7 : Int32) ≤ x1 then some (-1 : Int32) else ((inb x1 7).bind fun x5 => some x5))))
abbrev rm_X0_stateAt : Room := { frames := 2, cells := 0, slots := 0, locals := 43 }
theorem hd_X0_stateAt : yX0_stateAt.cls = RX0 ∧ yX0_stateAt.cls ≠ "java/lang/invoke/MethodHandle" ∧ yX0_stateAt.cls ≠ "java/lang/invoke/VarHandle" ∧ (parseMethodDescriptor yX0_stateAt.desc).map (fun d => d.parameters.length) = some 1 := by decide +kernel
set_option maxHeartbeats 4000000 in
set_option maxRecDepth 100000 in
theorem c_X0_stateAt (l : Launch) (D : va_G) (cI cZ cT : ClassId) (hs hst : Nat) (ta ca : Nat → Nat) (hh : HH) (a1 : Int32) (r : Int32) (h : f_X0_stateAt hh a1 = some r) : Met l yX0_stateAt (wq yX0_stateAt cX0_stateAt 3 (some (.object "QuarrelWays$Town"))) rm_X0_stateAt (q_R D (q_tys cI cZ cT) (wH cI cT hs hst ta ca hh) q_T [.ref hs, .int a1]) (va_Sq (fun r' => r' = q_ref ta r)) 0 0 (fun _ => False) := by
  refine q_RI (cc := cX0_stateAt) (maxL := 3) (ret := (some (.object "QuarrelWays$Town"))) (plainFor_of_name (by decide)) (Nat.le_of_ble_eq_true rfl) (fun p e s m below meth c C0 hP hK hE ls hl => ?_)
  have hl : lv_has ls 3 [(0, .ref hs), (1, .int a1)] := hl
  obtain ⟨hx, hb, hr, hml, hown, hts, hlocks⟩ := id C0
  have hF : CallFix p m c cX0_stateAt 3 s _ BW RX0 := ⟨hx, hb, hml, hown, hts⟩
  rw [f_X0_stateAt] at h
  refine lv_aload_n hx hb dX0_stateAt_0 rfl (lv_at hl 0 rfl) ?_
  refine lv_iload_n hx hb dX0_stateAt_1 rfl (lv_at hl 1 rfl) ?_
  obtain ⟨x1, h2, h⟩ := bE h
  refine x_RV (As := [.int a1]) (rest := []) hF (c_X0_placeOf l D cI cZ cT hs hst ta ca hh a1 x1 h2) (cwV 1 hts (gqV mw_30 mw_31 mw_32 mw_33 mw_25) rfl rfl rfl hd_X0_placeOf ⟨Nat.le_of_ble_eq_true rfl, Nat.le_of_ble_eq_true rfl⟩) hK hP q_T_bl (fun _ _ _ => trivial) [0, 1, 2, 3, 4, 5, 6, 7, 8, 9, 10, 11, 12, 13, 14, 15] rfl rfl rfl rfl hl.1 rfl (Nat.le_of_ble_eq_true rfl) dX0_stateAt_2 ⟨Nat.zero_le _, Nat.zero_le _⟩ ?_
  refine lv_istore_n (lv' := [(2, .int x1), (0, .ref hs), (1, .int a1)]) hx hb dX0_stateAt_5 rfl hl (by decide) rfl (fun ls hl => ?_)
  refine lv_iload_n hx hb dX0_stateAt_6 rfl (lv_at hl 0 rfl) ?_
  refine lv_if_lt (tgt := 28) hx hb dX0_stateAt_7 (by decide) (fun c3 => ?_) (fun c3 => ?_)
  · have h := xt c3 h
    refine lv_null hx hb dX0_stateAt_28 ?_
    cases h
    exact x_retQ C0 q_ref_n dX0_stateAt_29
  · have h := xf c3 h
    refine lv_iload_n hx hb dX0_stateAt_10 rfl (lv_at hl 0 rfl) ?_
    refine lv_aload_n hx hb dX0_stateAt_11 rfl (lv_at hl 1 rfl) ?_
    refine va_get (D := D) (v := .ref hst) (C := RX0) (T := TX0) (N := 3) hx hb hts iw_X0 hown hK hP 0 rfl rfl 0 (by decide) (hts _ mw_19) (fun _ h9 => h9) rfl dX0_stateAt_12 ?_
    refine va_alen hx hb hK hP 1 2 rfl rfl (v := 7) rfl dX0_stateAt_15 ?_
    refine lv_icmp_ge (tgt := 28) hx hb dX0_stateAt_16 (by decide) (fun c4 => ?_) (fun c4 => ?_)
    · have h := xt c4 h
      refine lv_null hx hb dX0_stateAt_28 ?_
      cases h
      exact x_retQ C0 q_ref_n dX0_stateAt_29
    · have h := xf c4 h
      refine lv_aload_n hx hb dX0_stateAt_19 rfl (lv_at hl 1 rfl) ?_
      refine va_get (D := D) (v := .ref hst) (C := RX0) (T := TX0) (N := 3) hx hb hts iw_X0 hown hK hP 0 rfl rfl 0 (by decide) (hts _ mw_19) (fun _ h9 => h9) rfl dX0_stateAt_20 ?_
      refine lv_iload_n hx hb dX0_stateAt_23 rfl (lv_at hl 0 rfl) ?_
      obtain ⟨x5, h6, h⟩ := bE h
      obtain ⟨hix5, ex5⟩ := inb_e h6
      subst ex5
      refine va_aldq (cA := cT) (C := "QuarrelWays$Town") (f := fun j => some (ta j)) hx hb hK hP 1 2 rfl rfl hix5 dX0_stateAt_24 ?_
      refine lv_goto (tgt := 29) hx hb dX0_stateAt_25 (by decide) ?_
      cases h
      exact x_retQ C0 (q_ref_in hix5) dX0_stateAt_29

/-! QuarrelWays.isError (I)Z -/
def f_X3_isError (a0 : Int32) : Option (Int32) := (if 0 ≤ a0 then some (0 : Int32) else (if a0 = (-6 : Int32) then some (0 : Int32) else some (1 : Int32)))
abbrev rm_X3_isError : Room := { frames := 0, cells := 0, slots := 0, locals := 0 }
theorem hd_X3_isError : yX3_isError.cls = RX3 ∧ yX3_isError.cls ≠ "java/lang/invoke/MethodHandle" ∧ yX3_isError.cls ≠ "java/lang/invoke/VarHandle" ∧ (parseMethodDescriptor yX3_isError.desc).map (fun d => d.parameters.length) = some 1 := by decide +kernel
set_option maxHeartbeats 4000000 in
set_option maxRecDepth 100000 in
theorem c_X3_isError (l : Launch) (D : va_G) (cI cZ cT : ClassId) (a0 : Int32) (r : Int32) (h : f_X3_isError a0 = some r) : Met l yX3_isError (wq yX3_isError cX3_isError 1 (some .boolean)) rm_X3_isError (q_R D (q_tys cI cZ cT) ([]) q_T [.int a0]) (vp_Si (fun r' => r' = r)) 0 0 (fun _ => False) := by
  refine q_RI (cc := cX3_isError) (maxL := 1) (ret := (some .boolean)) (plainFor_of_name (by decide)) (Nat.le_of_ble_eq_true rfl) (fun p e s m below meth c C0 hP hK hE ls hl => ?_)
  have hl : lv_has ls 1 [(0, .int a0)] := hl
  obtain ⟨hx, hb, hr, hml, hown, hts, hlocks⟩ := id C0
  have hF : CallFix p m c cX3_isError 1 s _ BW RX3 := ⟨hx, hb, hml, hown, hts⟩
  rw [f_X3_isError] at h
  refine lv_iload_n hx hb dX3_isError_0 rfl (lv_at hl 0 rfl) ?_
  refine lv_if_ge (tgt := 14) hx hb dX3_isError_1 (by decide) (fun c1 => ?_) (fun c1 => ?_)
  · have h := xt c1 h
    refine lv_iconst (v := 0) hx hb dX3_isError_14 (by decide) ?_
    cases h
    exact x_retR C0 rfl dX3_isError_15
  · have h := xf c1 h
    refine lv_iload_n hx hb dX3_isError_4 rfl (lv_at hl 0 rfl) ?_
    refine lv_bipush (v := (-6)) hx hb dX3_isError_5 (by decide) ?_
    refine lv_icmp_eq (tgt := 14) hx hb dX3_isError_7 (by decide) (fun c2 => ?_) (fun c2 => ?_)
    · have h := xt c2 h
      refine lv_iconst (v := 0) hx hb dX3_isError_14 (by decide) ?_
      cases h
      exact x_retR C0 rfl dX3_isError_15
    · have h := xf c2 h
      refine lv_iconst (v := 1) hx hb dX3_isError_10 (by decide) ?_
      refine lv_goto (tgt := 15) hx hb dX3_isError_11 (by decide) ?_
      cases h
      exact x_retR C0 rfl dX3_isError_15

/-! QuarrelWays.History.keepUnlessError (I)I -/
def f_X0_keepUnlessError (hh : HH) (a1 : Int32) : Option (Int32 × HH) := ((f_X3_isError a1).bind fun x1 => (if x1 = 0 then (if (6 : Int32) ≤ hh.2.1 then ((f_X0_placeOf hh (1 : Int32)).bind fun x5 => some (a1, (H1 hh x5))) else some (a1, (H2 hh (hh.2.1 + (1 : Int32))))) else some (a1, hh)))
abbrev rm_X0_keepUnlessError : Room := { frames := 2, cells := 0, slots := 0, locals := 43 }
theorem hd_X0_keepUnlessError : yX0_keepUnlessError.cls = RX0 ∧ yX0_keepUnlessError.cls ≠ "java/lang/invoke/MethodHandle" ∧ yX0_keepUnlessError.cls ≠ "java/lang/invoke/VarHandle" ∧ (parseMethodDescriptor yX0_keepUnlessError.desc).map (fun d => d.parameters.length) = some 1 := by decide +kernel
set_option maxHeartbeats 4000000 in
set_option maxRecDepth 100000 in
theorem c_X0_keepUnlessError (l : Launch) (D : va_G) (cI cZ cT : ClassId) (G : q_G) (sz : Nat) (hs hst : Nat) (ta ca : Nat → Nat) (hh : HH) (a1 : Int32) (r : Int32 × HH) (h : f_X0_keepUnlessError hh a1 = some r) : Met l yX0_keepUnlessError (wq yX0_keepUnlessError cX0_keepUnlessError 2 (some .int)) rm_X0_keepUnlessError (q_M D (q_tys cI cZ cT) sz (wH cI cT hs hst ta ca hh) (q_E G (va_A (wH cI cT hs hst ta ca hh) sz)) [.ref hs, .int a1]) (va_Qi (fun r' _ => r' = r.1) (q_B D (wH cI cT hs hst ta ca hh) sz (wH cI cT hs hst ta ca r.2)) (va_A (wH cI cT hs hst ta ca hh) sz)) 0 0 (va_A (wH cI cT hs hst ta ca hh) sz) := by
  refine q_MI (cc := cX0_keepUnlessError) (maxL := 2) (ret := (some .int)) (E := fun sz => (q_E G (va_A (wH cI cT hs hst ta ca hh) sz))) (Qc := fun sz => (va_Qi (fun r' _ => r' = r.1) (q_B D (wH cI cT hs hst ta ca hh) sz (wH cI cT hs hst ta ca r.2)) (va_A (wH cI cT hs hst ta ca hh) sz))) (free := fun sz => va_A (wH cI cT hs hst ta ca hh) sz) (plainFor_of_name (by decide)) (Nat.le_of_ble_eq_true rfl) (fun p e s m below meth c C0 hname hP hK hD hE ls hl => ?_)
  have hA : ∀ q, s.heap.size ≤ q → (va_A (wH cI cT hs hst ta ca hh) s.heap.size) q := fun _ => Or.inr
  have hS : va_S (va_A (wH cI cT hs hst ta ca hh) s.heap.size) s.heap s.heap [] := va_S.rf
  have hE : q_E G (va_A (wH cI cT hs hst ta ca hh) s.heap.size) s := hE
  have hl : lv_has ls 2 [(0, .ref hs), (1, .int a1)] := hl
  obtain ⟨hx, hb, hr, hml, hown, hts, hlocks⟩ := id C0
  have hF : CallFix p m c cX0_keepUnlessError 2 s _ BW RX0 := ⟨hx, hb, hml, hown, hts⟩
  rw [f_X0_keepUnlessError] at h
  refine lv_iload_n hx hb dX0_keepUnlessError_0 rfl (lv_at hl 1 rfl) ?_
  obtain ⟨x1, h2, h⟩ := bE h
  refine x_RSN (As := [.int a1]) (rest := []) hF (c_X3_isError l D cI cZ cT  a1 x1 h2) ⟨(va_cnB 1 hts (gq mw_48) rfl rfl rfl (nM_of hE 2 rfl) (hts _ mw_51) hd_X3_isError.2 ⟨Nat.le_of_ble_eq_true rfl, Nat.le_of_ble_eq_true rfl⟩), hts _ mw_50, trivial⟩ hK hP q_T_bl (fun _ _ _ => trivial) [] rfl rfl hl.1 rfl (Nat.le_of_ble_eq_true rfl) dX0_keepUnlessError_1 ⟨Nat.zero_le _, Nat.zero_le _⟩ ?_
  refine lv_if_eq (tgt := 9) hx hb dX0_keepUnlessError_4 (by decide) (fun c3 => ?_) (fun c3 => ?_)
  · have h := xt c3 h
    refine lv_aload_n hx hb dX0_keepUnlessError_9 rfl (lv_at hl 0 rfl) ?_
    refine va_get (D := D) (v := .int hh.2.1) (C := RX0) (T := TX0) (N := 3) hx hb hts iw_X0 hown hK hP 0 rfl rfl 2 (by decide) (hts _ mw_21) (fun _ h9 => h9) rfl dX0_keepUnlessError_10 ?_
    refine lv_bipush (v := 6) hx hb dX0_keepUnlessError_13 (by decide) ?_
    refine lv_icmp_ge (tgt := 31) hx hb dX0_keepUnlessError_15 (by decide) (fun c4 => ?_) (fun c4 => ?_)
    · have h := xt c4 h
      refine lv_aload_n hx hb dX0_keepUnlessError_31 rfl (lv_at hl 0 rfl) ?_
      refine lv_aload_n hx hb dX0_keepUnlessError_32 rfl (lv_at hl 0 rfl) ?_
      refine lv_iconst (v := 1) hx hb dX0_keepUnlessError_33 (by decide) ?_
      obtain ⟨x5, h6, h⟩ := bE h
      refine x_RV (As := [.int (1 : Int32)]) (rest := [.ref hs]) hF (c_X0_placeOf l D cI cZ cT hs hst ta ca hh (1 : Int32) x5 h6) (cwV 1 hts (gqV mw_30 mw_31 mw_32 mw_33 mw_25) rfl rfl rfl hd_X0_placeOf ⟨Nat.le_of_ble_eq_true rfl, Nat.le_of_ble_eq_true rfl⟩) hK hP q_T_bl (fun _ _ _ => trivial) [0, 1, 2, 3, 4, 5, 6, 7, 8, 9, 10, 11, 12, 13, 14, 15] rfl rfl rfl rfl hl.1 rfl (Nat.le_of_ble_eq_true rfl) dX0_keepUnlessError_34 ⟨Nat.zero_le _, Nat.zero_le _⟩ ?_
      refine va_put (D := D) (v := .int x5) (ty := .int) (C := RX0) (T := TX0) (N := 3) hx hb hts iw_X0 tyX0 tyX0_ok nmX0 hown hK hP hD hS 0 rfl rfl 1 (by decide) (hts _ mw_20) (fun _ h9 => h9) rfl (by decide +kernel) rfl rfl (Nat.le_of_ble_eq_true rfl) dX0_keepUnlessError_37 (fun H locs hP hD hS => ?_)
      have hP : va_P D vwCl (wH cI cT hs hst ta ca (H1 hh x5)) H := hP
      have hD : va_D (va_A (wH cI cT hs hst ta ca hh) s.heap.size) (wH cI cT hs hst ta ca (H1 hh x5)) := hD
      refine lv_iload_n hx hb dX0_keepUnlessError_40 rfl (lv_at hl 1 rfl) ?_
      cases h
      exact x_retM C0 rfl hP hD hS dX0_keepUnlessError_41
    · have h := xf c4 h
      refine lv_aload_n hx hb dX0_keepUnlessError_18 rfl (lv_at hl 0 rfl) ?_
      refine lv_dup hx hb dX0_keepUnlessError_19 rfl ?_
      refine va_get (D := D) (v := .int hh.2.1) (C := RX0) (T := TX0) (N := 3) hx hb hts iw_X0 hown hK hP 0 rfl rfl 2 (by decide) (hts _ mw_21) (fun _ h9 => h9) rfl dX0_keepUnlessError_20 ?_
      refine lv_iconst (v := 1) hx hb dX0_keepUnlessError_23 (by decide) ?_
      refine lv_iadd hx hb dX0_keepUnlessError_24 ?_
      refine va_put (D := D) (v := .int (hh.2.1 + (1 : Int32))) (ty := .int) (C := RX0) (T := TX0) (N := 3) hx hb hts iw_X0 tyX0 tyX0_ok nmX0 hown hK hP hD hS 0 rfl rfl 2 (by decide) (hts _ mw_21) (fun _ h9 => h9) rfl (by decide +kernel) rfl rfl (Nat.le_of_ble_eq_true rfl) dX0_keepUnlessError_25 (fun H locs hP hD hS => ?_)
      have hP : va_P D vwCl (wH cI cT hs hst ta ca (H2 hh (hh.2.1 + (1 : Int32)))) H := hP
      have hD : va_D (va_A (wH cI cT hs hst ta ca hh) s.heap.size) (wH cI cT hs hst ta ca (H2 hh (hh.2.1 + (1 : Int32)))) := hD
      refine lv_goto (tgt := 40) hx hb dX0_keepUnlessError_28 (by decide) ?_
      refine lv_iload_n hx hb dX0_keepUnlessError_40 rfl (lv_at hl 1 rfl) ?_
      cases h
      exact x_retM C0 rfl hP hD hS dX0_keepUnlessError_41
  · have h := xf c3 h
    refine lv_iload_n hx hb dX0_keepUnlessError_7 rfl (lv_at hl 1 rfl) ?_
    cases h
    exact x_retM C0 rfl hP hD hS dX0_keepUnlessError_8

end G_H

section G_ME
variable {p : Program} {l : Launch} {e : Env} {s : State} {m : MethodId} {args : Array Value} {below : List Frame} {meth : Method} {c : Code} {D : va_G} {cI cZ cT : ClassId}

/-! QuarrelWaysModel.sign (II)I -/
def f_X4_sign (t : MM) (a1 : Int32) (a2 : Int32) : Option (Int32 × MM) := (((if t.2.2.2.2.2.2.2.1 ≤ t.2.2.2.2.2.2.2.2.1 then some (0 : Int32) else ((rd t.2.2.2.2.2.2.1 80 t.2.2.2.2.2.2.2.2.1).bind fun x13 => some x13)) : Option (Int32)).bind fun v1 => (((if t.2.2.2.2.2.2.2.2.2 = 0 then (if t.2.2.2.2.2.2.2.1 ≤ t.2.2.2.2.2.2.2.2.1 then some (1 : Int32) else ((f_X4_in v1 a1 a2).bind fun x9 => (if x9 = 0 then some (1 : Int32) else some (0 : Int32)))) else some (1 : Int32)) : Option (Int32)).bind fun v2 => ((gb v2).bind fun x3 => (((if (M9 t v2).2.2.2.2.2.2.2.2.2 = 0 then some (1 : Int32) else some (0 : Int32)) : Option (Int32)).bind fun v5 => some (v1, (M8 (M9 t v2) ((M9 t v2).2.2.2.2.2.2.2.2.1 + v5)))))))
abbrev rm_X4_sign : Room := { frames := 1, cells := 0, slots := 0, locals := 22 }
theorem hd_X4_sign : yX4_sign.cls = RX4 ∧ yX4_sign.cls ≠ "java/lang/invoke/MethodHandle" ∧ yX4_sign.cls ≠ "java/lang/invoke/VarHandle" ∧ (parseMethodDescriptor yX4_sign.desc).map (fun d => d.parameters.length) = some 2 := by decide +kernel
set_option maxHeartbeats 4000000 in
set_option maxRecDepth 100000 in
theorem c_X4_sign (l : Launch) (D : va_G) (cI cZ cT : ClassId) (sz : Nat) (o : Nat) (b : Nat → Nat) (t : MM) (a1 : Int32) (a2 : Int32) (r : Int32 × MM) (h : f_X4_sign t a1 a2 = some r) : Met l yX4_sign (wq yX4_sign cX4_sign 4 (some .int)) rm_X4_sign (q_M D (q_tys cI cZ cT) sz (wM cI cZ o b t) q_T [.ref o, .int a1, .int a2]) (va_Qi (fun r' _ => r' = r.1) (q_B D (wM cI cZ o b t) sz (wM cI cZ o b r.2)) (va_A (wM cI cZ o b t) sz)) 0 0 (va_A (wM cI cZ o b t) sz) := by
  refine q_MI (cc := cX4_sign) (maxL := 4) (ret := (some .int)) (E := fun sz => q_T) (Qc := fun sz => (va_Qi (fun r' _ => r' = r.1) (q_B D (wM cI cZ o b t) sz (wM cI cZ o b r.2)) (va_A (wM cI cZ o b t) sz))) (free := fun sz => va_A (wM cI cZ o b t) sz) (plainFor_of_name (by decide)) (Nat.le_of_ble_eq_true rfl) (fun p e s m below meth c C0 hname hP hK hD hE ls hl => ?_)
  have hA : ∀ q, s.heap.size ≤ q → (va_A (wM cI cZ o b t) s.heap.size) q := fun _ => Or.inr
  have hS : va_S (va_A (wM cI cZ o b t) s.heap.size) s.heap s.heap [] := va_S.rf
  have hl : lv_has ls 4 [(0, .ref o), (1, .int a1), (2, .int a2)] := hl
  obtain ⟨hx, hb, hr, hml, hown, hts, hlocks⟩ := id C0
  have hF : CallFix p m c cX4_sign 4 s _ BW RX4 := ⟨hx, hb, hml, hown, hts⟩
  rw [f_X4_sign] at h
  refine lv_aload_n hx hb dX4_sign_0 rfl (lv_at hl 0 rfl) ?_
  refine va_get (D := D) (v := .int t.2.2.2.2.2.2.2.2.1) (C := RX4) (T := TX4) (N := 10) hx hb hts iw_X4 hown hK hP 0 rfl rfl 8 (by decide) (hts _ mw_594) (fun _ h9 => h9) rfl dX4_sign_1 ?_
  refine lv_aload_n hx hb dX4_sign_4 rfl (lv_at hl 0 rfl) ?_
  refine va_get (D := D) (v := .int t.2.2.2.2.2.2.2.1) (C := RX4) (T := TX4) (N := 10) hx hb hts iw_X4 hown hK hP 0 rfl rfl 7 (by decide) (hts _ mw_576) (fun _ h9 => h9) rfl dX4_sign_5 ?_
  refine x_j (V := Int32) (nL := 4) (fun v1 => [(0, .ref o), (1, .int a1), (2, .int a2)]) 24 (fun v1 => [.int v1]) h (fun v1 h ls hl => ?_) (fun v1 h hj => ?_)
  · refine lv_istore_n (lv' := [(3, .int v1), (0, .ref o), (1, .int a1), (2, .int a2)]) hx hb dX4_sign_24 rfl hl (by decide) rfl (fun ls hl => ?_)
    refine lv_aload_n hx hb dX4_sign_25 rfl (lv_at hl 1 rfl) ?_
    refine lv_aload_n hx hb dX4_sign_26 rfl (lv_at hl 1 rfl) ?_
    refine va_get (D := D) (v := .int t.2.2.2.2.2.2.2.2.2) (C := RX4) (T := TX4) (N := 10) hx hb hts iw_X4 hown hK hP 0 rfl rfl 9 (by decide) (hts _ mw_595) (fun _ h9 => h9) rfl dX4_sign_27 ?_
    refine x_j (V := Int32) (nL := 4) (fun v2 => [(0, .ref o), (3, .int v1)]) 58 (fun v2 => [.int v2, .ref o]) h (fun v2 h ls hl => ?_) (fun v2 h hj => ?_)
    · obtain ⟨x3, h4, h⟩ := bE h
      obtain ⟨hzx3, ex3⟩ := gb_e h4
      subst ex3
      refine va_put (D := D) (v := .int v2) (ty := .boolean) (C := RX4) (T := TX4) (N := 10) hx hb hts iw_X4 tyX4 tyX4_ok nmX4 hown hK hP hD hS 0 rfl rfl 9 (by decide) (hts _ mw_595) (fun _ h9 => h9) rfl (by decide +kernel) (x_nz hzx3) (x_fz hzx3) (Nat.le_of_ble_eq_true rfl) dX4_sign_58 (fun H locs hP hD hS => ?_)
      have hP : va_P D vwCl (wM cI cZ o b (M9 t v2)) H := hP
      have hD : va_D (va_A (wM cI cZ o b t) s.heap.size) (wM cI cZ o b (M9 t v2)) := hD
      refine lv_aload_n hx hb dX4_sign_61 rfl (lv_at hl 0 rfl) ?_
      refine lv_dup hx hb dX4_sign_62 rfl ?_
      refine va_get (D := D) (v := .int ((M9 t v2).2.2.2.2.2.2.2.2.1)) (C := RX4) (T := TX4) (N := 10) hx hb hts iw_X4 hown hK hP 0 rfl rfl 8 (by decide) (hts _ mw_594) (fun _ h9 => h9) rfl dX4_sign_63 ?_
      refine lv_aload_n hx hb dX4_sign_66 rfl (lv_at hl 0 rfl) ?_
      refine va_get (D := D) (v := .int ((M9 t v2).2.2.2.2.2.2.2.2.2)) (C := RX4) (T := TX4) (N := 10) hx hb hts iw_X4 hown hK hP 0 rfl rfl 9 (by decide) (hts _ mw_595) (fun _ h9 => h9) rfl dX4_sign_67 ?_
      refine x_j (V := Int32) (nL := 4) (fun v5 => [(3, .int v1)]) 78 (fun v5 => [.int v5, .int ((M9 t v2).2.2.2.2.2.2.2.2.1), .ref o]) h (fun v5 h ls hl => ?_) (fun v5 h hj => ?_)
      · refine lv_iadd hx hb dX4_sign_78 ?_
        refine va_put (D := D) (v := .int ((M9 t v2).2.2.2.2.2.2.2.2.1 + v5)) (ty := .int) (C := RX4) (T := TX4) (N := 10) hx hb hts iw_X4 tyX4 tyX4_ok nmX4 hown hK hP hD hS 0 rfl rfl 8 (by decide) (hts _ mw_594) (fun _ h9 => h9) rfl (by decide +kernel) rfl rfl (Nat.le_of_ble_eq_true rfl) dX4_sign_79 (fun H locs hP hD hS => ?_)
        have hP : va_P D vwCl (wM cI cZ o b (M8 (M9 t v2) ((M9 t v2).2.2.2.2.2.2.2.2.1 + v5))) H := hP
        have hD : va_D (va_A (wM cI cZ o b t) s.heap.size) (wM cI cZ o b (M8 (M9 t v2) ((M9 t v2).2.2.2.2.2.2.2.2.1 + v5))) := hD
        refine lv_iload_n hx hb dX4_sign_82 rfl (lv_at hl 0 rfl) ?_
        cases h
        exact x_retM C0 rfl hP hD hS dX4_sign_83
      · refine lv_if_eq (tgt := 77) hx hb dX4_sign_70 (by decide) (fun c6 => ?_) (fun c6 => ?_)
        · have h := xt c6 h
          refine lv_iconst (v := 1) hx hb dX4_sign_77 (by decide) ?_
          cases h
          exact hj _ (lv_sub hl [1] rfl)
        · have h := xf c6 h
          refine lv_iconst (v := 0) hx hb dX4_sign_73 (by decide) ?_
          refine lv_goto (tgt := 78) hx hb dX4_sign_74 (by decide) ?_
          cases h
          exact hj _ (lv_sub hl [1] rfl)
    · refine lv_if_ne (tgt := 53) hx hb dX4_sign_30 (by decide) (fun c7 => ?_) (fun c7 => ?_)
      · have h := xf c7 h
        refine lv_iconst (v := 1) hx hb dX4_sign_53 (by decide) ?_
        refine lv_goto (tgt := 58) hx hb dX4_sign_54 (by decide) ?_
        cases h
        exact hj _ (lv_sub hl [1, 0] rfl)
      · have h := xt c7 h
        refine lv_aload_n hx hb dX4_sign_33 rfl (lv_at hl 1 rfl) ?_
        refine va_get (D := D) (v := .int t.2.2.2.2.2.2.2.2.1) (C := RX4) (T := TX4) (N := 10) hx hb hts iw_X4 hown hK hP 0 rfl rfl 8 (by decide) (hts _ mw_594) (fun _ h9 => h9) rfl dX4_sign_34 ?_
        refine lv_aload_n hx hb dX4_sign_37 rfl (lv_at hl 1 rfl) ?_
        refine va_get (D := D) (v := .int t.2.2.2.2.2.2.2.1) (C := RX4) (T := TX4) (N := 10) hx hb hts iw_X4 hown hK hP 0 rfl rfl 7 (by decide) (hts _ mw_576) (fun _ h9 => h9) rfl dX4_sign_38 ?_
        refine lv_icmp_ge (tgt := 53) hx hb dX4_sign_41 (by decide) (fun c8 => ?_) (fun c8 => ?_)
        · have h := xt c8 h
          refine lv_iconst (v := 1) hx hb dX4_sign_53 (by decide) ?_
          refine lv_goto (tgt := 58) hx hb dX4_sign_54 (by decide) ?_
          cases h
          exact hj _ (lv_sub hl [1, 0] rfl)
        · have h := xf c8 h
          refine lv_iload_n hx hb dX4_sign_44 rfl (lv_at hl 0 rfl) ?_
          refine lv_iload_n hx hb dX4_sign_45 rfl (lv_at hl 2 rfl) ?_
          refine lv_iload_n hx hb dX4_sign_46 rfl (lv_at hl 3 rfl) ?_
          obtain ⟨x9, h10, h⟩ := bE h
          refine x_RS (As := [.int v1, .int a1, .int a2]) (rest := [.ref o]) hF (c_X4_in l D cI cZ cT  v1 a1 a2 x9 h10) (va_cwS 3 hts (gqS mw_426 mw_427 mw_428 mw_421) rfl rfl rfl hd_X4_in.2 ⟨Nat.le_of_ble_eq_true rfl, Nat.le_of_ble_eq_true rfl⟩) hK hP q_T_bl (fun _ _ _ => trivial) [] rfl rfl hl.1 rfl (Nat.le_of_ble_eq_true rfl) dX4_sign_47 ⟨Nat.zero_le _, Nat.zero_le _⟩ ?_
          refine lv_if_ne (tgt := 57) hx hb dX4_sign_50 (by decide) (fun c11 => ?_) (fun c11 => ?_)
          · have h := xf c11 h
            refine lv_iconst (v := 0) hx hb dX4_sign_57 (by decide) ?_
            cases h
            exact hj _ (lv_sub hl [1, 0] rfl)
          · have h := xt c11 h
            refine lv_iconst (v := 1) hx hb dX4_sign_53 (by decide) ?_
            refine lv_goto (tgt := 58) hx hb dX4_sign_54 (by decide) ?_
            cases h
            exact hj _ (lv_sub hl [1, 0] rfl)
  · refine lv_icmp_ge (tgt := 23) hx hb dX4_sign_8 (by decide) (fun c12 => ?_) (fun c12 => ?_)
    · have h := xt c12 h
      refine lv_iconst (v := 0) hx hb dX4_sign_23 (by decide) ?_
      cases h
      exact hj _ (lv_sub hl [0, 1, 2] rfl)
    · have h := xf c12 h
      refine lv_aload_n hx hb dX4_sign_11 rfl (lv_at hl 0 rfl) ?_
      refine va_get (D := D) (v := .ref (b 6)) (C := RX4) (T := TX4) (N := 10) hx hb hts iw_X4 hown hK hP 0 rfl rfl 6 (by decide) (hts _ mw_420) (fun _ h9 => h9) rfl dX4_sign_12 ?_
      refine lv_aload_n hx hb dX4_sign_15 rfl (lv_at hl 0 rfl) ?_
      refine va_get (D := D) (v := .int t.2.2.2.2.2.2.2.2.1) (C := RX4) (T := TX4) (N := 10) hx hb hts iw_X4 hown hK hP 0 rfl rfl 8 (by decide) (hts _ mw_594) (fun _ h9 => h9) rfl dX4_sign_16 ?_
      obtain ⟨x13, h14, h⟩ := bE h
      refine x_iald (cA := cI) hx hb hK hP 6 0 rfl rfl h14 dX4_sign_19 ?_
      refine lv_goto (tgt := 24) hx hb dX4_sign_20 (by decide) ?_
      cases h
      exact hj _ (lv_sub hl [0, 1, 2] rfl)

/-! QuarrelWaysModel.digit ()I -/
def f_X4_digit (t : MM) : Option (Int32 × MM) := ((f_X4_sign t (48 : Int32) (57 : Int32)).bind fun x1 => some ((x1.1 - (48 : Int32)), x1.2))
abbrev rm_X4_digit : Room := { frames := 2, cells := 0, slots := 0, locals := 45 }
theorem hd_X4_digit : yX4_digit.cls = RX4 ∧ yX4_digit.cls ≠ "java/lang/invoke/MethodHandle" ∧ yX4_digit.cls ≠ "java/lang/invoke/VarHandle" ∧ (parseMethodDescriptor yX4_digit.desc).map (fun d => d.parameters.length) = some 0 := by decide +kernel
set_option maxHeartbeats 4000000 in
set_option maxRecDepth 100000 in
theorem c_X4_digit (l : Launch) (D : va_G) (cI cZ cT : ClassId) (sz : Nat) (o : Nat) (b : Nat → Nat) (t : MM) (r : Int32 × MM) (h : f_X4_digit t = some r) : Met l yX4_digit (wq yX4_digit cX4_digit 1 (some .int)) rm_X4_digit (q_M D (q_tys cI cZ cT) sz (wM cI cZ o b t) q_T [.ref o]) (va_Qi (fun r' _ => r' = r.1) (q_B D (wM cI cZ o b t) sz (wM cI cZ o b r.2)) (va_A (wM cI cZ o b t) sz)) 0 0 (va_A (wM cI cZ o b t) sz) := by
  refine q_MI (cc := cX4_digit) (maxL := 1) (ret := (some .int)) (E := fun sz => q_T) (Qc := fun sz => (va_Qi (fun r' _ => r' = r.1) (q_B D (wM cI cZ o b t) sz (wM cI cZ o b r.2)) (va_A (wM cI cZ o b t) sz))) (free := fun sz => va_A (wM cI cZ o b t) sz) (plainFor_of_name (by decide)) (Nat.le_of_ble_eq_true rfl) (fun p e s m below meth c C0 hname hP hK hD hE ls hl => ?_)
  have hA : ∀ q, s.heap.size ≤ q → (va_A (wM cI cZ o b t) s.heap.size) q := fun _ => Or.inr
  have hS : va_S (va_A (wM cI cZ o b t) s.heap.size) s.heap s.heap [] := va_S.rf
  have hl : lv_has ls 1 [(0, .ref o)] := hl
  obtain ⟨hx, hb, hr, hml, hown, hts, hlocks⟩ := id C0
  have hF : CallFix p m c cX4_digit 1 s _ BW RX4 := ⟨hx, hb, hml, hown, hts⟩
  rw [f_X4_digit] at h
  refine lv_aload_n hx hb dX4_digit_0 rfl (lv_at hl 0 rfl) ?_
  refine lv_bipush (v := 48) hx hb dX4_digit_1 (by decide) ?_
  refine lv_bipush (v := 57) hx hb dX4_digit_3 (by decide) ?_
  obtain ⟨x1, h2, h⟩ := bE h
  refine x_MV (As := [.int (48 : Int32), .int (57 : Int32)]) (rest := []) (wr := []) (W1 := wM cI cZ o b x1.2) hF (c_X4_sign l D cI cZ cT _ o b t (48 : Int32) (57 : Int32) x1 h2) (cwV 2 hts (gqV mw_597 mw_598 mw_599 mw_428 mw_593) rfl rfl rfl hd_X4_sign ⟨Nat.le_of_ble_eq_true rfl, Nat.le_of_ble_eq_true rfl⟩) hK hP hD hS hA q_T_bl (fun _ _ _ => trivial) [0, 1, 2, 3, 4, 5, 6] [] [0, 1, 2, 3, 4, 5, 6] rfl rfl ⟨rfl, rfl, rfl, rfl⟩ rfl rfl rfl rfl hl.1 rfl (Nat.le_of_ble_eq_true rfl) dX4_digit_5 ⟨Nat.zero_le _, Nat.zero_le _⟩ (fun H locs hP hD hS => ?_)
  refine lv_bipush (v := 48) hx hb dX4_digit_8 (by decide) ?_
  refine lv_isub hx hb dX4_digit_10 ?_
  cases h
  exact x_retM C0 rfl hP hD hS dX4_digit_11

/-! QuarrelWaysModel.number ()I -/
def f_X4_number (t : MM) : Option (Int32 × MM) := ((f_X4_digit t).bind fun x1 => (if x1.1 ≤ 0 then some (x1.1, x1.2) else (if x1.2.2.2.2.2.2.2.2.2.2 = 0 then (if x1.2.2.2.2.2.2.2.2.1 ≤ x1.2.2.2.2.2.2.2.2.2.1 then some (x1.1, x1.2) else ((rd x1.2.2.2.2.2.2.2.1 80 x1.2.2.2.2.2.2.2.2.2.1).bind fun x6 => ((f_X4_in x6 (48 : Int32) (57 : Int32)).bind fun x8 => (if x8 = 0 then some (x1.1, x1.2) else ((f_X4_digit x1.2).bind fun x11 => some ((((10 : Int32) * x1.1) + x11.1), x11.2)))))) else some (x1.1, x1.2))))
abbrev rm_X4_number : Room := { frames := 3, cells := 0, slots := 0, locals := 65 }
theorem hd_X4_number : yX4_number.cls = RX4 ∧ yX4_number.cls ≠ "java/lang/invoke/MethodHandle" ∧ yX4_number.cls ≠ "java/lang/invoke/VarHandle" ∧ (parseMethodDescriptor yX4_number.desc).map (fun d => d.parameters.length) = some 0 := by decide +kernel
set_option maxHeartbeats 4000000 in
set_option maxRecDepth 100000 in
theorem c_X4_number (l : Launch) (D : va_G) (cI cZ cT : ClassId) (sz : Nat) (o : Nat) (b : Nat → Nat) (t : MM) (r : Int32 × MM) (h : f_X4_number t = some r) : Met l yX4_number (wq yX4_number cX4_number 2 (some .int)) rm_X4_number (q_M D (q_tys cI cZ cT) sz (wM cI cZ o b t) q_T [.ref o]) (va_Qi (fun r' _ => r' = r.1) (q_B D (wM cI cZ o b t) sz (wM cI cZ o b r.2)) (va_A (wM cI cZ o b t) sz)) 0 0 (va_A (wM cI cZ o b t) sz) := by
  refine q_MI (cc := cX4_number) (maxL := 2) (ret := (some .int)) (E := fun sz => q_T) (Qc := fun sz => (va_Qi (fun r' _ => r' = r.1) (q_B D (wM cI cZ o b t) sz (wM cI cZ o b r.2)) (va_A (wM cI cZ o b t) sz))) (free := fun sz => va_A (wM cI cZ o b t) sz) (plainFor_of_name (by decide)) (Nat.le_of_ble_eq_true rfl) (fun p e s m below meth c C0 hname hP hK hD hE ls hl => ?_)
  have hA : ∀ q, s.heap.size ≤ q → (va_A (wM cI cZ o b t) s.heap.size) q := fun _ => Or.inr
  have hS : va_S (va_A (wM cI cZ o b t) s.heap.size) s.heap s.heap [] := va_S.rf
  have hl : lv_has ls 2 [(0, .ref o)] := hl
  obtain ⟨hx, hb, hr, hml, hown, hts, hlocks⟩ := id C0
  have hF : CallFix p m c cX4_number 2 s _ BW RX4 := ⟨hx, hb, hml, hown, hts⟩
  rw [f_X4_number] at h
  refine lv_aload_n hx hb dX4_number_0 rfl (lv_at hl 0 rfl) ?_
  obtain ⟨x1, h2, h⟩ := bE h
  refine x_MV (As := []) (rest := []) (wr := []) (W1 := wM cI cZ o b x1.2) hF (c_X4_digit l D cI cZ cT _ o b t  x1 h2) (cwV 0 hts (gqV mw_601 mw_602 mw_603 mw_428 mw_596) rfl rfl rfl hd_X4_digit ⟨Nat.le_of_ble_eq_true rfl, Nat.le_of_ble_eq_true rfl⟩) hK hP hD hS hA q_T_bl (fun _ _ _ => trivial) [0, 1, 2, 3, 4, 5, 6] [] [0, 1, 2, 3, 4, 5, 6] rfl rfl ⟨rfl, rfl, rfl, rfl⟩ rfl rfl rfl rfl hl.1 rfl (Nat.le_of_ble_eq_true rfl) dX4_number_1 ⟨Nat.zero_le _, Nat.zero_le _⟩ (fun H locs hP hD hS => ?_)
  refine lv_istore_n (lv' := [(1, .int x1.1), (0, .ref o)]) hx hb dX4_number_4 rfl hl (by decide) rfl (fun ls hl => ?_)
  refine lv_iload_n hx hb dX4_number_5 rfl (lv_at hl 0 rfl) ?_
  refine lv_if_le (tgt := 56) hx hb dX4_number_6 (by decide) (fun c3 => ?_) (fun c3 => ?_)
  · have h := xt c3 h
    refine lv_iload_n hx hb dX4_number_56 rfl (lv_at hl 0 rfl) ?_
    cases h
    exact x_retM C0 rfl hP hD hS dX4_number_57
  · have h := xf c3 h
    refine lv_aload_n hx hb dX4_number_9 rfl (lv_at hl 1 rfl) ?_
    refine va_get (D := D) (v := .int x1.2.2.2.2.2.2.2.2.2.2) (C := RX4) (T := TX4) (N := 10) hx hb hts iw_X4 hown hK hP 0 rfl rfl 9 (by decide) (hts _ mw_595) (fun _ h9 => h9) rfl dX4_number_10 ?_
    refine lv_if_ne (tgt := 56) hx hb dX4_number_13 (by decide) (fun c4 => ?_) (fun c4 => ?_)
    · have h := xf c4 h
      refine lv_iload_n hx hb dX4_number_56 rfl (lv_at hl 0 rfl) ?_
      cases h
      exact x_retM C0 rfl hP hD hS dX4_number_57
    · have h := xt c4 h
      refine lv_aload_n hx hb dX4_number_16 rfl (lv_at hl 1 rfl) ?_
      refine va_get (D := D) (v := .int x1.2.2.2.2.2.2.2.2.2.1) (C := RX4) (T := TX4) (N := 10) hx hb hts iw_X4 hown hK hP 0 rfl rfl 8 (by decide) (hts _ mw_594) (fun _ h9 => h9) rfl dX4_number_17 ?_
      refine lv_aload_n hx hb dX4_number_20 rfl (lv_at hl 1 rfl) ?_
      refine va_get (D := D) (v := .int x1.2.2.2.2.2.2.2.2.1) (C := RX4) (T := TX4) (N := 10) hx hb hts iw_X4 hown hK hP 0 rfl rfl 7 (by decide) (hts _ mw_576) (fun _ h9 => h9) rfl dX4_number_21 ?_
      refine lv_icmp_ge (tgt := 56) hx hb dX4_number_24 (by decide) (fun c5 => ?_) (fun c5 => ?_)
      · have h := xt c5 h
        refine lv_iload_n hx hb dX4_number_56 rfl (lv_at hl 0 rfl) ?_
        cases h
        exact x_retM C0 rfl hP hD hS dX4_number_57
      · have h := xf c5 h
        refine lv_aload_n hx hb dX4_number_27 rfl (lv_at hl 1 rfl) ?_
        refine va_get (D := D) (v := .ref (b 6)) (C := RX4) (T := TX4) (N := 10) hx hb hts iw_X4 hown hK hP 0 rfl rfl 6 (by decide) (hts _ mw_420) (fun _ h9 => h9) rfl dX4_number_28 ?_
        refine lv_aload_n hx hb dX4_number_31 rfl (lv_at hl 1 rfl) ?_
        refine va_get (D := D) (v := .int x1.2.2.2.2.2.2.2.2.2.1) (C := RX4) (T := TX4) (N := 10) hx hb hts iw_X4 hown hK hP 0 rfl rfl 8 (by decide) (hts _ mw_594) (fun _ h9 => h9) rfl dX4_number_32 ?_
        obtain ⟨x6, h7, h⟩ := bE h
        refine x_iald (cA := cI) hx hb hK hP 6 0 rfl rfl h7 dX4_number_35 ?_
        refine lv_bipush (v := 48) hx hb dX4_number_36 (by decide) ?_
        refine lv_bipush (v := 57) hx hb dX4_number_38 (by decide) ?_
        obtain ⟨x8, h9, h⟩ := bE h
        refine x_RS (As := [.int x6, .int (48 : Int32), .int (57 : Int32)]) (rest := []) hF (c_X4_in l D cI cZ cT  x6 (48 : Int32) (57 : Int32) x8 h9) (va_cwS 3 hts (gqS mw_426 mw_427 mw_428 mw_421) rfl rfl rfl hd_X4_in.2 ⟨Nat.le_of_ble_eq_true rfl, Nat.le_of_ble_eq_true rfl⟩) hK hP q_T_bl (fun _ _ _ => trivial) [] rfl rfl hl.1 rfl (Nat.le_of_ble_eq_true rfl) dX4_number_40 ⟨Nat.zero_le _, Nat.zero_le _⟩ ?_
        refine lv_if_eq (tgt := 56) hx hb dX4_number_43 (by decide) (fun c10 => ?_) (fun c10 => ?_)
        · have h := xt c10 h
          refine lv_iload_n hx hb dX4_number_56 rfl (lv_at hl 0 rfl) ?_
          cases h
          exact x_retM C0 rfl hP hD hS dX4_number_57
        · have h := xf c10 h
          refine lv_bipush (v := 10) hx hb dX4_number_46 (by decide) ?_
          refine lv_iload_n hx hb dX4_number_48 rfl (lv_at hl 0 rfl) ?_
          refine lv_imul hx hb dX4_number_49 ?_
          refine lv_aload_n hx hb dX4_number_50 rfl (lv_at hl 1 rfl) ?_
          obtain ⟨x11, h12, h⟩ := bE h
          refine x_MV (As := []) (rest := [.int ((10 : Int32) * x1.1)]) (wr := []) (W1 := wM cI cZ o b x11.2) hF (c_X4_digit l D cI cZ cT _ o b x1.2  x11 h12) (cwV 0 hts (gqV mw_601 mw_602 mw_603 mw_428 mw_596) rfl rfl rfl hd_X4_digit ⟨Nat.le_of_ble_eq_true rfl, Nat.le_of_ble_eq_true rfl⟩) hK hP hD hS hA q_T_bl (fun _ _ _ => trivial) [0, 1, 2, 3, 4, 5, 6] [] [0, 1, 2, 3, 4, 5, 6] rfl rfl ⟨rfl, rfl, rfl, rfl⟩ rfl rfl rfl rfl hl.1 rfl (Nat.le_of_ble_eq_true rfl) dX4_number_51 ⟨Nat.zero_le _, Nat.zero_le _⟩ (fun H locs hP hD hS => ?_)
          refine lv_iadd hx hb dX4_number_54 ?_
          refine lv_istore_n (lv' := [(1, .int (((10 : Int32) * x1.1) + x11.1)), (0, .ref o)]) hx hb dX4_number_55 rfl hl (by decide) rfl (fun ls hl => ?_)
          refine lv_iload_n hx hb dX4_number_56 rfl (lv_at hl 0 rfl) ?_
          cases h
          exact x_retM C0 rfl hP hD hS dX4_number_57

/-! QuarrelWaysModel.order (Z)I -/
def f_X4_order (t : MM) (a1 : Int32) : Option (Int32 × MM) := (((if t.2.2.2.2.2.2.2.1 ≤ t.2.2.2.2.2.2.2.2.1 then some (0 : Int32) else ((rd t.2.2.2.2.2.2.1 80 t.2.2.2.2.2.2.2.2.1).bind fun x116 => some x116)) : Option (Int32)).bind fun v1 => (((if v1 = (112 : Int32) then some (1 : Int32) else (if v1 = (115 : Int32) then some (1 : Int32) else (if v1 = (105 : Int32) then some (1 : Int32) else (if v1 = (119 : Int32) then some (1 : Int32) else (if v1 = (102 : Int32) then some (1 : Int32) else (if v1 = (111 : Int32) then some (1 : Int32) else (if v1 = (116 : Int32) then some (1 : Int32) else (if v1 = (97 : Int32) then some (1 : Int32) else some (0 : Int32))))))))) : Option (Int32)).bind fun v2 => (((if t.2.2.2.2.2.2.2.2.2 = 0 then (if v2 = 0 then some (1 : Int32) else some (0 : Int32)) else some (1 : Int32)) : Option (Int32)).bind fun v3 => ((gb v3).bind fun x4 => (((if (M9 t v3).2.2.2.2.2.2.2.2.2 = 0 then some (1 : Int32) else some (0 : Int32)) : Option (Int32)).bind fun v6 => (((if v1 = (119 : Int32) then ((f_X4_number (M8 (M9 t v3) ((M9 t v3).2.2.2.2.2.2.2.2.1 + v6))).bind fun x94 => some (x94.1, x94.2)) else (if v1 = (102 : Int32) then ((f_X4_number (M8 (M9 t v3) ((M9 t v3).2.2.2.2.2.2.2.2.1 + v6))).bind fun x97 => some (x97.1, x97.2)) else (if v1 = (116 : Int32) then ((f_X4_number (M8 (M9 t v3) ((M9 t v3).2.2.2.2.2.2.2.2.1 + v6))).bind fun x102 => some (x102.1, x102.2)) else ((f_X4_digit (M8 (M9 t v3) ((M9 t v3).2.2.2.2.2.2.2.2.1 + v6))).bind fun x100 => some (x100.1, x100.2))))) : Option (Int32 × MM)).bind fun v7 => (((if v1 = (115 : Int32) then ((f_X4_sign v7.2 (62 : Int32) (62 : Int32)).bind fun x91 => some x91.2) else some v7.2) : Option (MM)).bind fun v8 => (((if v1 = (119 : Int32) then ((f_X4_sign v8 (46 : Int32) (46 : Int32)).bind fun x88 => some x88.2) else some v8) : Option (MM)).bind fun v9 => (((if v1 = (112 : Int32) then ((f_X4_digit v9).bind fun x76 => some (x76.1, x76.2)) else (if v1 = (115 : Int32) then ((f_X4_digit v9).bind fun x79 => some (x79.1, x79.2)) else (if v1 = (105 : Int32) then ((f_X4_digit v9).bind fun x82 => some (x82.1, x82.2)) else (if v1 = (119 : Int32) then ((f_X4_digit v9).bind fun x85 => some (x85.1, x85.2)) else some ((0 : Int32), v9))))) : Option (Int32 × MM)).bind fun v10 => (((if v1 = (105 : Int32) then ((f_X4_sign v10.2 (47 : Int32) (47 : Int32)).bind fun x71 => ((f_X4_digit x71.2).bind fun x73 => some (x73.1, x73.2))) else some ((0 : Int32), v10.2)) : Option (Int32 × MM)).bind fun v11 => (if a1 = 0 then some ((0 : Int32), v11.2) else (if v1 = (102 : Int32) then ((f_X4_fights v11.2.1 v7.1).bind fun x15 => some (x15.1, (M0 v11.2 x15.2))) else (if v1 = (103 : Int32) then ((f_X4_turns v11.2.1 v7.1).bind fun x18 => some (x18.1, (M0 v11.2 x18.2))) else (if v1 = (104 : Int32) then ((f_X4_turns v11.2.1 v7.1).bind fun x21 => some (x21.1, (M0 v11.2 x21.2))) else (if v1 = (105 : Int32) then ((f_X4_offends v11.2.1 v7.1 v10.1 v11.1).bind fun x24 => some (x24.1, (M0 v11.2 x24.2))) else (if v1 = (106 : Int32) then ((f_X4_turns v11.2.1 v7.1).bind fun x27 => some (x27.1, (M0 v11.2 x27.2))) else (if v1 = (107 : Int32) then ((f_X4_turns v11.2.1 v7.1).bind fun x30 => some (x30.1, (M0 v11.2 x30.2))) else (if v1 = (108 : Int32) then ((f_X4_turns v11.2.1 v7.1).bind fun x33 => some (x33.1, (M0 v11.2 x33.2))) else (if v1 = (109 : Int32) then ((f_X4_turns v11.2.1 v7.1).bind fun x36 => some (x36.1, (M0 v11.2 x36.2))) else (if v1 = (110 : Int32) then ((f_X4_turns v11.2.1 v7.1).bind fun x39 => some (x39.1, (M0 v11.2 x39.2))) else (if v1 = (111 : Int32) then ((f_X4_swears v11.2.1 v7.1).bind fun x42 => some (x42.1, (M0 v11.2 x42.2))) else (if v1 = (112 : Int32) then ((f_X4_comes v11.2.1 v7.1 v10.1).bind fun x45 => some (x45.1, (M0 v11.2 x45.2))) else (if v1 = (113 : Int32) then ((f_X4_turns v11.2.1 v7.1).bind fun x48 => some (x48.1, (M0 v11.2 x48.2))) else (if v1 = (114 : Int32) then ((f_X4_turns v11.2.1 v7.1).bind fun x51 => some (x51.1, (M0 v11.2 x51.2))) else (if v1 = (115 : Int32) then ((f_X4_takes v11.2.1 v7.1 v10.1).bind fun x54 => some (x54.1, (M0 v11.2 x54.2))) else (if v1 = (116 : Int32) then ((f_X4_passes v11.2.1 v7.1).bind fun x57 => some (x57.1, (M0 v11.2 x57.2))) else (if v1 = (117 : Int32) then ((f_X4_turns v11.2.1 v7.1).bind fun x60 => some (x60.1, (M0 v11.2 x60.2))) else (if v1 = (118 : Int32) then ((f_X4_turns v11.2.1 v7.1).bind fun x63 => some (x63.1, (M0 v11.2 x63.2))) else (if v1 = (119 : Int32) then ((f_X4_settles v11.2.1 v7.1 v10.1).bind fun x66 => some (x66.1, (M0 v11.2 x66.2))) else ((f_X4_turns v11.2.1 v7.1).bind fun x68 => some (x68.1, (M0 v11.2 x68.2))))))))))))))))))))))))))))))))
abbrev rm_X4_order : Room := { frames := 8, cells := 0, slots := 0, locals := 188 }
theorem hd_X4_order : yX4_order.cls = RX4 ∧ yX4_order.cls ≠ "java/lang/invoke/MethodHandle" ∧ yX4_order.cls ≠ "java/lang/invoke/VarHandle" ∧ (parseMethodDescriptor yX4_order.desc).map (fun d => d.parameters.length) = some 1 := by decide +kernel
set_option maxHeartbeats 4000000 in
set_option maxRecDepth 100000 in
theorem c_X4_order (l : Launch) (D : va_G) (cI cZ cT : ClassId) (sz : Nat) (o : Nat) (b : Nat → Nat) (t : MM) (a1 : Int32) (r : Int32 × MM) (h : f_X4_order t a1 = some r) : Met l yX4_order (wq yX4_order cX4_order 8 (some .int)) rm_X4_order (q_M D (q_tys cI cZ cT) sz (wM cI cZ o b t) q_T [.ref o, .int a1]) (va_Qi (fun r' _ => r' = r.1) (q_B D (wM cI cZ o b t) sz (wM cI cZ o b r.2)) (va_A (wM cI cZ o b t) sz)) 0 0 (va_A (wM cI cZ o b t) sz) := by
  refine q_MI (cc := cX4_order) (maxL := 8) (ret := (some .int)) (E := fun sz => q_T) (Qc := fun sz => (va_Qi (fun r' _ => r' = r.1) (q_B D (wM cI cZ o b t) sz (wM cI cZ o b r.2)) (va_A (wM cI cZ o b t) sz))) (free := fun sz => va_A (wM cI cZ o b t) sz) (plainFor_of_name (by decide)) (Nat.le_of_ble_eq_true rfl) (fun p e s m below meth c C0 hname hP hK hD hE ls hl => ?_)
  have hA : ∀ q, s.heap.size ≤ q → (va_A (wM cI cZ o b t) s.heap.size) q := fun _ => Or.inr
  have hS : va_S (va_A (wM cI cZ o b t) s.heap.size) s.heap s.heap [] := va_S.rf
  have hl : lv_has ls 8 [(0, .ref o), (1, .int a1)] := hl
  obtain ⟨hx, hb, hr, hml, hown, hts, hlocks⟩ := id C0
  have hF : CallFix p m c cX4_order 8 s _ BW RX4 := ⟨hx, hb, hml, hown, hts⟩
  rw [f_X4_order] at h
  refine lv_aload_n hx hb dX4_order_0 rfl (lv_at hl 0 rfl) ?_
  refine va_get (D := D) (v := .int t.2.2.2.2.2.2.2.2.1) (C := RX4) (T := TX4) (N := 10) hx hb hts iw_X4 hown hK hP 0 rfl rfl 8 (by decide) (hts _ mw_594) (fun _ h9 => h9) rfl dX4_order_1 ?_
  refine lv_aload_n hx hb dX4_order_4 rfl (lv_at hl 0 rfl) ?_
  refine va_get (D := D) (v := .int t.2.2.2.2.2.2.2.1) (C := RX4) (T := TX4) (N := 10) hx hb hts iw_X4 hown hK hP 0 rfl rfl 7 (by decide) (hts _ mw_576) (fun _ h9 => h9) rfl dX4_order_5 ?_
  refine x_j (V := Int32) (nL := 8) (fun v1 => [(0, .ref o), (1, .int a1)]) 24 (fun v1 => [.int v1]) h (fun v1 h ls hl => ?_) (fun v1 h hj => ?_)
  · refine lv_istore_n (lv' := [(2, .int v1), (0, .ref o), (1, .int a1)]) hx hb dX4_order_24 rfl hl (by decide) rfl (fun ls hl => ?_)
    refine lv_iload_n hx hb dX4_order_25 rfl (lv_at hl 0 rfl) ?_
    refine lv_bipush (v := 112) hx hb dX4_order_26 (by decide) ?_
    refine x_j (V := Int32) (nL := 8) (fun v2 => [(0, .ref o), (1, .int a1), (2, .int v1)]) 78 (fun v2 => [.int v2]) h (fun v2 h ls hl => ?_) (fun v2 h hj => ?_)
    · refine lv_istore_n (lv' := [(3, .int v2), (0, .ref o), (1, .int a1), (2, .int v1)]) hx hb dX4_order_78 rfl hl (by decide) rfl (fun ls hl => ?_)
      refine lv_aload_n hx hb dX4_order_79 rfl (lv_at hl 1 rfl) ?_
      refine lv_aload_n hx hb dX4_order_80 rfl (lv_at hl 1 rfl) ?_
      refine va_get (D := D) (v := .int t.2.2.2.2.2.2.2.2.2) (C := RX4) (T := TX4) (N := 10) hx hb hts iw_X4 hown hK hP 0 rfl rfl 9 (by decide) (hts _ mw_595) (fun _ h9 => h9) rfl dX4_order_81 ?_
      refine x_j (V := Int32) (nL := 8) (fun v3 => [(0, .ref o), (1, .int a1), (2, .int v1)]) 96 (fun v3 => [.int v3, .ref o]) h (fun v3 h ls hl => ?_) (fun v3 h hj => ?_)
      · obtain ⟨x4, h5, h⟩ := bE h
        obtain ⟨hzx4, ex4⟩ := gb_e h5
        subst ex4
        refine va_put (D := D) (v := .int v3) (ty := .boolean) (C := RX4) (T := TX4) (N := 10) hx hb hts iw_X4 tyX4 tyX4_ok nmX4 hown hK hP hD hS 0 rfl rfl 9 (by decide) (hts _ mw_595) (fun _ h9 => h9) rfl (by decide +kernel) (x_nz hzx4) (x_fz hzx4) (Nat.le_of_ble_eq_true rfl) dX4_order_96 (fun H locs hP hD hS => ?_)
        have hP : va_P D vwCl (wM cI cZ o b (M9 t v3)) H := hP
        have hD : va_D (va_A (wM cI cZ o b t) s.heap.size) (wM cI cZ o b (M9 t v3)) := hD
        refine lv_aload_n hx hb dX4_order_99 rfl (lv_at hl 0 rfl) ?_
        refine lv_dup hx hb dX4_order_100 rfl ?_
        refine va_get (D := D) (v := .int ((M9 t v3).2.2.2.2.2.2.2.2.1)) (C := RX4) (T := TX4) (N := 10) hx hb hts iw_X4 hown hK hP 0 rfl rfl 8 (by decide) (hts _ mw_594) (fun _ h9 => h9) rfl dX4_order_101 ?_
        refine lv_aload_n hx hb dX4_order_104 rfl (lv_at hl 0 rfl) ?_
        refine va_get (D := D) (v := .int ((M9 t v3).2.2.2.2.2.2.2.2.2)) (C := RX4) (T := TX4) (N := 10) hx hb hts iw_X4 hown hK hP 0 rfl rfl 9 (by decide) (hts _ mw_595) (fun _ h9 => h9) rfl dX4_order_105 ?_
        refine x_j (V := Int32) (nL := 8) (fun v6 => [(0, .ref o), (1, .int a1), (2, .int v1)]) 116 (fun v6 => [.int v6, .int ((M9 t v3).2.2.2.2.2.2.2.2.1), .ref o]) h (fun v6 h ls hl => ?_) (fun v6 h hj => ?_)
        · refine lv_iadd hx hb dX4_order_116 ?_
          refine va_put (D := D) (v := .int ((M9 t v3).2.2.2.2.2.2.2.2.1 + v6)) (ty := .int) (C := RX4) (T := TX4) (N := 10) hx hb hts iw_X4 tyX4 tyX4_ok nmX4 hown hK hP hD hS 0 rfl rfl 8 (by decide) (hts _ mw_594) (fun _ h9 => h9) rfl (by decide +kernel) rfl rfl (Nat.le_of_ble_eq_true rfl) dX4_order_117 (fun H locs hP hD hS => ?_)
          have hP : va_P D vwCl (wM cI cZ o b (M8 (M9 t v3) ((M9 t v3).2.2.2.2.2.2.2.2.1 + v6))) H := hP
          have hD : va_D (va_A (wM cI cZ o b t) s.heap.size) (wM cI cZ o b (M8 (M9 t v3) ((M9 t v3).2.2.2.2.2.2.2.2.1 + v6))) := hD
          refine lv_iload_n hx hb dX4_order_120 rfl (lv_at hl 2 rfl) ?_
          refine lv_bipush (v := 119) hx hb dX4_order_121 (by decide) ?_
          refine x_jM (V := Int32 × MM) (nL := 8) (D := D) (A := (va_A (wM cI cZ o b t) s.heap.size)) (H0 := s.heap) (fun v7 => [(0, .ref o), (1, .int a1), (2, .int v1)]) 149 (fun v7 => [.int v7.1]) (fun v7 => wM cI cZ o b v7.2) h (fun v7 h H locs ls hP hD hS hl => ?_) (fun v7 h hj => ?_)
          · refine lv_istore (lv' := [(4, .int v7.1), (0, .ref o), (1, .int a1), (2, .int v1)]) hx hb dX4_order_149 hl (by decide) rfl (fun ls hl => ?_)
            refine lv_iconst (v := 0) hx hb dX4_order_151 (by decide) ?_
            refine lv_istore (lv' := [(5, .int (0 : Int32)), (4, .int v7.1), (0, .ref o), (1, .int a1), (2, .int v1)]) hx hb dX4_order_152 hl (by decide) rfl (fun ls hl => ?_)
            refine lv_iconst (v := 0) hx hb dX4_order_154 (by decide) ?_
            refine lv_istore (lv' := [(6, .int (0 : Int32)), (5, .int (0 : Int32)), (4, .int v7.1), (0, .ref o), (1, .int a1), (2, .int v1)]) hx hb dX4_order_155 hl (by decide) rfl (fun ls hl => ?_)
            refine lv_iload_n hx hb dX4_order_157 rfl (lv_at hl 5 rfl) ?_
            refine lv_bipush (v := 115) hx hb dX4_order_158 (by decide) ?_
            refine x_jM (V := MM) (nL := 8) (D := D) (A := (va_A (wM cI cZ o b t) s.heap.size)) (H0 := s.heap) (fun v8 => [(0, .ref o), (1, .int a1), (2, .int v1), (4, .int v7.1), (5, .int (0 : Int32)), (6, .int (0 : Int32))]) 173 (fun v8 => []) (fun v8 => wM cI cZ o b v8) h (fun v8 h H locs ls hP hD hS hl => ?_) (fun v8 h hj => ?_)
            · refine lv_iload_n hx hb dX4_order_173 rfl (lv_at hl 2 rfl) ?_
              refine lv_bipush (v := 119) hx hb dX4_order_174 (by decide) ?_
              refine x_jM (V := MM) (nL := 8) (D := D) (A := (va_A (wM cI cZ o b t) s.heap.size)) (H0 := s.heap) (fun v9 => [(0, .ref o), (1, .int a1), (2, .int v1), (4, .int v7.1), (5, .int (0 : Int32)), (6, .int (0 : Int32))]) 189 (fun v9 => []) (fun v9 => wM cI cZ o b v9) h (fun v9 h H locs ls hP hD hS hl => ?_) (fun v9 h hj => ?_)
              · refine lv_iload_n hx hb dX4_order_189 rfl (lv_at hl 2 rfl) ?_
                refine lv_bipush (v := 112) hx hb dX4_order_190 (by decide) ?_
                refine x_jM (V := Int32 × MM) (nL := 8) (D := D) (A := (va_A (wM cI cZ o b t) s.heap.size)) (H0 := s.heap) (fun v10 => [(0, .ref o), (1, .int a1), (2, .int v1), (4, .int v7.1), (5, .int v10.1), (6, .int (0 : Int32))]) 219 (fun v10 => []) (fun v10 => wM cI cZ o b v10.2) h (fun v10 h H locs ls hP hD hS hl => ?_) (fun v10 h hj => ?_)
                · refine lv_iload_n hx hb dX4_order_219 rfl (lv_at hl 2 rfl) ?_
                  refine lv_bipush (v := 105) hx hb dX4_order_220 (by decide) ?_
                  refine x_jM (V := Int32 × MM) (nL := 8) (D := D) (A := (va_A (wM cI cZ o b t) s.heap.size)) (H0 := s.heap) (fun v11 => [(0, .ref o), (1, .int a1), (2, .int v1), (4, .int v7.1), (5, .int v10.1), (6, .int v11.1)]) 241 (fun v11 => []) (fun v11 => wM cI cZ o b v11.2) h (fun v11 h H locs ls hP hD hS hl => ?_) (fun v11 h hj => ?_)
                  · refine lv_iload_n hx hb dX4_order_241 rfl (lv_at hl 1 rfl) ?_
                    refine lv_if_ne (tgt := 247) hx hb dX4_order_242 (by decide) (fun c12 => ?_) (fun c12 => ?_)
                    · have h := xf c12 h
                      refine lv_iload_n hx hb dX4_order_247 rfl (lv_at hl 2 rfl) ?_
                      by_cases c14 : v1 = (102 : Int32)
                      · have h := xt c14 h
                        refine lv_tableIn (tgt := 374) hx hb dX4_order_248 (by rw [c14]; decide) (by rw [c14]; decide) (off := 126) (by rw [c14]; rfl) (by decide) ?_
                        refine lv_aload_n hx hb dX4_order_374 rfl (lv_at hl 0 rfl) ?_
                        refine lv_iload hx hb dX4_order_375 (lv_at hl 3 rfl) ?_
                        obtain ⟨x15, h16, h⟩ := bE h
                        refine x_MV (As := [.int v7.1]) (rest := []) (wr := (([2, 3, 4, 5, 6] : List Nat).filterMap (fun i => (wM cI cZ o b v11.2)[i]?))) (W1 := wM cI cZ o b (M0 v11.2 x15.2)) hF (c_X4_fights l D cI cZ cT _ o (wMf b v11.2) (b 0) rfl v11.2.1 v7.1 x15 h16) (cwV 1 hts (gqV mw_542 mw_543 mw_544 mw_428 mw_509) rfl rfl rfl hd_X4_fights ⟨Nat.le_of_ble_eq_true rfl, Nat.le_of_ble_eq_true rfl⟩) hK hP hD hS hA q_T_bl (fun _ _ _ => trivial) [0, 1] [2, 3, 4, 5, 6] [5, 6, 0, 1, 2, 3, 4] rfl rfl ⟨rfl, rfl, rfl, rfl⟩ rfl rfl rfl rfl hl.1 rfl (Nat.le_of_ble_eq_true rfl) dX4_order_377 ⟨Nat.zero_le _, Nat.zero_le _⟩ (fun H locs hP hD hS => ?_)
                        cases h
                        exact x_retM C0 rfl hP hD hS dX4_order_380
                      have h := xf c14 h
                      by_cases c17 : v1 = (103 : Int32)
                      · have h := xt c17 h
                        refine lv_tableIn (tgt := 395) hx hb dX4_order_248 (by rw [c17]; decide) (by rw [c17]; decide) (off := 147) (by rw [c17]; rfl) (by decide) ?_
                        refine lv_aload_n hx hb dX4_order_395 rfl (lv_at hl 0 rfl) ?_
                        refine lv_iload hx hb dX4_order_396 (lv_at hl 3 rfl) ?_
                        obtain ⟨x18, h19, h⟩ := bE h
                        refine x_MV (As := [.int v7.1]) (rest := []) (wr := (([2, 3, 4, 5, 6] : List Nat).filterMap (fun i => (wM cI cZ o b v11.2)[i]?))) (W1 := wM cI cZ o b (M0 v11.2 x18.2)) hF (c_X4_turns l D cI cZ cT _ o (wMf b v11.2) (b 0) rfl v11.2.1 v7.1 x18 h19) (cwV 1 hts (gqV mw_531 mw_532 mw_533 mw_428 mw_486) rfl rfl rfl hd_X4_turns ⟨Nat.le_of_ble_eq_true rfl, Nat.le_of_ble_eq_true rfl⟩) hK hP hD hS hA q_T_bl (fun _ _ _ => trivial) [0, 1] [2, 3, 4, 5, 6] [5, 6, 0, 1, 2, 3, 4] rfl rfl ⟨rfl, rfl, rfl, rfl⟩ rfl rfl rfl rfl hl.1 rfl (Nat.le_of_ble_eq_true rfl) dX4_order_398 ⟨Nat.zero_le _, Nat.zero_le _⟩ (fun H locs hP hD hS => ?_)
                        cases h
                        exact x_retM C0 rfl hP hD hS dX4_order_401
                      have h := xf c17 h
                      by_cases c20 : v1 = (104 : Int32)
                      · have h := xt c20 h
                        refine lv_tableIn (tgt := 395) hx hb dX4_order_248 (by rw [c20]; decide) (by rw [c20]; decide) (off := 147) (by rw [c20]; rfl) (by decide) ?_
                        refine lv_aload_n hx hb dX4_order_395 rfl (lv_at hl 0 rfl) ?_
                        refine lv_iload hx hb dX4_order_396 (lv_at hl 3 rfl) ?_
                        obtain ⟨x21, h22, h⟩ := bE h
                        refine x_MV (As := [.int v7.1]) (rest := []) (wr := (([2, 3, 4, 5, 6] : List Nat).filterMap (fun i => (wM cI cZ o b v11.2)[i]?))) (W1 := wM cI cZ o b (M0 v11.2 x21.2)) hF (c_X4_turns l D cI cZ cT _ o (wMf b v11.2) (b 0) rfl v11.2.1 v7.1 x21 h22) (cwV 1 hts (gqV mw_531 mw_532 mw_533 mw_428 mw_486) rfl rfl rfl hd_X4_turns ⟨Nat.le_of_ble_eq_true rfl, Nat.le_of_ble_eq_true rfl⟩) hK hP hD hS hA q_T_bl (fun _ _ _ => trivial) [0, 1] [2, 3, 4, 5, 6] [5, 6, 0, 1, 2, 3, 4] rfl rfl ⟨rfl, rfl, rfl, rfl⟩ rfl rfl rfl rfl hl.1 rfl (Nat.le_of_ble_eq_true rfl) dX4_order_398 ⟨Nat.zero_le _, Nat.zero_le _⟩ (fun H locs hP hD hS => ?_)
                        cases h
                        exact x_retM C0 rfl hP hD hS dX4_order_401
                      have h := xf c20 h
                      by_cases c23 : v1 = (105 : Int32)
                      · have h := xt c23 h
                        refine lv_tableIn (tgt := 354) hx hb dX4_order_248 (by rw [c23]; decide) (by rw [c23]; decide) (off := 106) (by rw [c23]; rfl) (by decide) ?_
                        refine lv_aload_n hx hb dX4_order_354 rfl (lv_at hl 0 rfl) ?_
                        refine lv_iload hx hb dX4_order_355 (lv_at hl 3 rfl) ?_
                        refine lv_iload hx hb dX4_order_357 (lv_at hl 4 rfl) ?_
                        refine lv_iload hx hb dX4_order_359 (lv_at hl 5 rfl) ?_
                        obtain ⟨x24, h25, h⟩ := bE h
                        refine x_MV (As := [.int v7.1, .int v10.1, .int v11.1]) (rest := []) (wr := (([2, 3, 4, 5, 6] : List Nat).filterMap (fun i => (wM cI cZ o b v11.2)[i]?))) (W1 := wM cI cZ o b (M0 v11.2 x24.2)) hF (c_X4_offends l D cI cZ cT _ o (wMf b v11.2) (b 0) rfl v11.2.1 v7.1 v10.1 v11.1 x24 h25) (cwV 3 hts (gqV mw_534 mw_535 mw_536 mw_428 mw_487) rfl rfl rfl hd_X4_offends ⟨Nat.le_of_ble_eq_true rfl, Nat.le_of_ble_eq_true rfl⟩) hK hP hD hS hA q_T_bl (fun _ _ _ => trivial) [0, 1] [2, 3, 4, 5, 6] [5, 6, 0, 1, 2, 3, 4] rfl rfl ⟨rfl, rfl, rfl, rfl⟩ rfl rfl rfl rfl hl.1 rfl (Nat.le_of_ble_eq_true rfl) dX4_order_361 ⟨Nat.zero_le _, Nat.zero_le _⟩ (fun H locs hP hD hS => ?_)
                        cases h
                        exact x_retM C0 rfl hP hD hS dX4_order_364
                      have h := xf c23 h
                      by_cases c26 : v1 = (106 : Int32)
                      · have h := xt c26 h
                        refine lv_tableIn (tgt := 395) hx hb dX4_order_248 (by rw [c26]; decide) (by rw [c26]; decide) (off := 147) (by rw [c26]; rfl) (by decide) ?_
                        refine lv_aload_n hx hb dX4_order_395 rfl (lv_at hl 0 rfl) ?_
                        refine lv_iload hx hb dX4_order_396 (lv_at hl 3 rfl) ?_
                        obtain ⟨x27, h28, h⟩ := bE h
                        refine x_MV (As := [.int v7.1]) (rest := []) (wr := (([2, 3, 4, 5, 6] : List Nat).filterMap (fun i => (wM cI cZ o b v11.2)[i]?))) (W1 := wM cI cZ o b (M0 v11.2 x27.2)) hF (c_X4_turns l D cI cZ cT _ o (wMf b v11.2) (b 0) rfl v11.2.1 v7.1 x27 h28) (cwV 1 hts (gqV mw_531 mw_532 mw_533 mw_428 mw_486) rfl rfl rfl hd_X4_turns ⟨Nat.le_of_ble_eq_true rfl, Nat.le_of_ble_eq_true rfl⟩) hK hP hD hS hA q_T_bl (fun _ _ _ => trivial) [0, 1] [2, 3, 4, 5, 6] [5, 6, 0, 1, 2, 3, 4] rfl rfl ⟨rfl, rfl, rfl, rfl⟩ rfl rfl rfl rfl hl.1 rfl (Nat.le_of_ble_eq_true rfl) dX4_order_398 ⟨Nat.zero_le _, Nat.zero_le _⟩ (fun H locs hP hD hS => ?_)
                        cases h
                        exact x_retM C0 rfl hP hD hS dX4_order_401
                      have h := xf c26 h
                      by_cases c29 : v1 = (107 : Int32)
                      · have h := xt c29 h
                        refine lv_tableIn (tgt := 395) hx hb dX4_order_248 (by rw [c29]; decide) (by rw [c29]; decide) (off := 147) (by rw [c29]; rfl) (by decide) ?_
                        refine lv_aload_n hx hb dX4_order_395 rfl (lv_at hl 0 rfl) ?_
                        refine lv_iload hx hb dX4_order_396 (lv_at hl 3 rfl) ?_
                        obtain ⟨x30, h31, h⟩ := bE h
                        refine x_MV (As := [.int v7.1]) (rest := []) (wr := (([2, 3, 4, 5, 6] : List Nat).filterMap (fun i => (wM cI cZ o b v11.2)[i]?))) (W1 := wM cI cZ o b (M0 v11.2 x30.2)) hF (c_X4_turns l D cI cZ cT _ o (wMf b v11.2) (b 0) rfl v11.2.1 v7.1 x30 h31) (cwV 1 hts (gqV mw_531 mw_532 mw_533 mw_428 mw_486) rfl rfl rfl hd_X4_turns ⟨Nat.le_of_ble_eq_true rfl, Nat.le_of_ble_eq_true rfl⟩) hK hP hD hS hA q_T_bl (fun _ _ _ => trivial) [0, 1] [2, 3, 4, 5, 6] [5, 6, 0, 1, 2, 3, 4] rfl rfl ⟨rfl, rfl, rfl, rfl⟩ rfl rfl rfl rfl hl.1 rfl (Nat.le_of_ble_eq_true rfl) dX4_order_398 ⟨Nat.zero_le _, Nat.zero_le _⟩ (fun H locs hP hD hS => ?_)
                        cases h
                        exact x_retM C0 rfl hP hD hS dX4_order_401
                      have h := xf c29 h
                      by_cases c32 : v1 = (108 : Int32)
                      · have h := xt c32 h
                        refine lv_tableIn (tgt := 395) hx hb dX4_order_248 (by rw [c32]; decide) (by rw [c32]; decide) (off := 147) (by rw [c32]; rfl) (by decide) ?_
                        refine lv_aload_n hx hb dX4_order_395 rfl (lv_at hl 0 rfl) ?_
                        refine lv_iload hx hb dX4_order_396 (lv_at hl 3 rfl) ?_
                        obtain ⟨x33, h34, h⟩ := bE h
                        refine x_MV (As := [.int v7.1]) (rest := []) (wr := (([2, 3, 4, 5, 6] : List Nat).filterMap (fun i => (wM cI cZ o b v11.2)[i]?))) (W1 := wM cI cZ o b (M0 v11.2 x33.2)) hF (c_X4_turns l D cI cZ cT _ o (wMf b v11.2) (b 0) rfl v11.2.1 v7.1 x33 h34) (cwV 1 hts (gqV mw_531 mw_532 mw_533 mw_428 mw_486) rfl rfl rfl hd_X4_turns ⟨Nat.le_of_ble_eq_true rfl, Nat.le_of_ble_eq_true rfl⟩) hK hP hD hS hA q_T_bl (fun _ _ _ => trivial) [0, 1] [2, 3, 4, 5, 6] [5, 6, 0, 1, 2, 3, 4] rfl rfl ⟨rfl, rfl, rfl, rfl⟩ rfl rfl rfl rfl hl.1 rfl (Nat.le_of_ble_eq_true rfl) dX4_order_398 ⟨Nat.zero_le _, Nat.zero_le _⟩ (fun H locs hP hD hS => ?_)
                        cases h
                        exact x_retM C0 rfl hP hD hS dX4_order_401
                      have h := xf c32 h
                      by_cases c35 : v1 = (109 : Int32)
                      · have h := xt c35 h
                        refine lv_tableIn (tgt := 395) hx hb dX4_order_248 (by rw [c35]; decide) (by rw [c35]; decide) (off := 147) (by rw [c35]; rfl) (by decide) ?_
                        refine lv_aload_n hx hb dX4_order_395 rfl (lv_at hl 0 rfl) ?_
                        refine lv_iload hx hb dX4_order_396 (lv_at hl 3 rfl) ?_
                        obtain ⟨x36, h37, h⟩ := bE h
                        refine x_MV (As := [.int v7.1]) (rest := []) (wr := (([2, 3, 4, 5, 6] : List Nat).filterMap (fun i => (wM cI cZ o b v11.2)[i]?))) (W1 := wM cI cZ o b (M0 v11.2 x36.2)) hF (c_X4_turns l D cI cZ cT _ o (wMf b v11.2) (b 0) rfl v11.2.1 v7.1 x36 h37) (cwV 1 hts (gqV mw_531 mw_532 mw_533 mw_428 mw_486) rfl rfl rfl hd_X4_turns ⟨Nat.le_of_ble_eq_true rfl, Nat.le_of_ble_eq_true rfl⟩) hK hP hD hS hA q_T_bl (fun _ _ _ => trivial) [0, 1] [2, 3, 4, 5, 6] [5, 6, 0, 1, 2, 3, 4] rfl rfl ⟨rfl, rfl, rfl, rfl⟩ rfl rfl rfl rfl hl.1 rfl (Nat.le_of_ble_eq_true rfl) dX4_order_398 ⟨Nat.zero_le _, Nat.zero_le _⟩ (fun H locs hP hD hS => ?_)
                        cases h
                        exact x_retM C0 rfl hP hD hS dX4_order_401
                      have h := xf c35 h
                      by_cases c38 : v1 = (110 : Int32)
                      · have h := xt c38 h
                        refine lv_tableIn (tgt := 395) hx hb dX4_order_248 (by rw [c38]; decide) (by rw [c38]; decide) (off := 147) (by rw [c38]; rfl) (by decide) ?_
                        refine lv_aload_n hx hb dX4_order_395 rfl (lv_at hl 0 rfl) ?_
                        refine lv_iload hx hb dX4_order_396 (lv_at hl 3 rfl) ?_
                        obtain ⟨x39, h40, h⟩ := bE h
                        refine x_MV (As := [.int v7.1]) (rest := []) (wr := (([2, 3, 4, 5, 6] : List Nat).filterMap (fun i => (wM cI cZ o b v11.2)[i]?))) (W1 := wM cI cZ o b (M0 v11.2 x39.2)) hF (c_X4_turns l D cI cZ cT _ o (wMf b v11.2) (b 0) rfl v11.2.1 v7.1 x39 h40) (cwV 1 hts (gqV mw_531 mw_532 mw_533 mw_428 mw_486) rfl rfl rfl hd_X4_turns ⟨Nat.le_of_ble_eq_true rfl, Nat.le_of_ble_eq_true rfl⟩) hK hP hD hS hA q_T_bl (fun _ _ _ => trivial) [0, 1] [2, 3, 4, 5, 6] [5, 6, 0, 1, 2, 3, 4] rfl rfl ⟨rfl, rfl, rfl, rfl⟩ rfl rfl rfl rfl hl.1 rfl (Nat.le_of_ble_eq_true rfl) dX4_order_398 ⟨Nat.zero_le _, Nat.zero_le _⟩ (fun H locs hP hD hS => ?_)
                        cases h
                        exact x_retM C0 rfl hP hD hS dX4_order_401
                      have h := xf c38 h
                      by_cases c41 : v1 = (111 : Int32)
                      · have h := xt c41 h
                        refine lv_tableIn (tgt := 381) hx hb dX4_order_248 (by rw [c41]; decide) (by rw [c41]; decide) (off := 133) (by rw [c41]; rfl) (by decide) ?_
                        refine lv_aload_n hx hb dX4_order_381 rfl (lv_at hl 0 rfl) ?_
                        refine lv_iload hx hb dX4_order_382 (lv_at hl 3 rfl) ?_
                        obtain ⟨x42, h43, h⟩ := bE h
                        refine x_MV (As := [.int v7.1]) (rest := []) (wr := (([2, 3, 4, 5, 6] : List Nat).filterMap (fun i => (wM cI cZ o b v11.2)[i]?))) (W1 := wM cI cZ o b (M0 v11.2 x42.2)) hF (c_X4_swears l D cI cZ cT _ o (wMf b v11.2) (b 0) rfl v11.2.1 v7.1 x42 h43) (cwV 1 hts (gqV mw_546 mw_547 mw_548 mw_428 mw_510) rfl rfl rfl hd_X4_swears ⟨Nat.le_of_ble_eq_true rfl, Nat.le_of_ble_eq_true rfl⟩) hK hP hD hS hA q_T_bl (fun _ _ _ => trivial) [0, 1] [2, 3, 4, 5, 6] [5, 6, 0, 1, 2, 3, 4] rfl rfl ⟨rfl, rfl, rfl, rfl⟩ rfl rfl rfl rfl hl.1 rfl (Nat.le_of_ble_eq_true rfl) dX4_order_384 ⟨Nat.zero_le _, Nat.zero_le _⟩ (fun H locs hP hD hS => ?_)
                        cases h
                        exact x_retM C0 rfl hP hD hS dX4_order_387
                      have h := xf c41 h
                      by_cases c44 : v1 = (112 : Int32)
                      · have h := xt c44 h
                        refine lv_tableIn (tgt := 336) hx hb dX4_order_248 (by rw [c44]; decide) (by rw [c44]; decide) (off := 88) (by rw [c44]; rfl) (by decide) ?_
                        refine lv_aload_n hx hb dX4_order_336 rfl (lv_at hl 0 rfl) ?_
                        refine lv_iload hx hb dX4_order_337 (lv_at hl 3 rfl) ?_
                        refine lv_iload hx hb dX4_order_339 (lv_at hl 4 rfl) ?_
                        obtain ⟨x45, h46, h⟩ := bE h
                        refine x_MV (As := [.int v7.1, .int v10.1]) (rest := []) (wr := (([2, 3, 4, 5, 6] : List Nat).filterMap (fun i => (wM cI cZ o b v11.2)[i]?))) (W1 := wM cI cZ o b (M0 v11.2 x45.2)) hF (c_X4_comes l D cI cZ cT _ o (wMf b v11.2) (b 0) rfl v11.2.1 v7.1 v10.1 x45 h46) (cwV 2 hts (gqV mw_523 mw_524 mw_525 mw_428 mw_481) rfl rfl rfl hd_X4_comes ⟨Nat.le_of_ble_eq_true rfl, Nat.le_of_ble_eq_true rfl⟩) hK hP hD hS hA q_T_bl (fun _ _ _ => trivial) [0, 1] [2, 3, 4, 5, 6] [5, 6, 0, 1, 2, 3, 4] rfl rfl ⟨rfl, rfl, rfl, rfl⟩ rfl rfl rfl rfl hl.1 rfl (Nat.le_of_ble_eq_true rfl) dX4_order_341 ⟨Nat.zero_le _, Nat.zero_le _⟩ (fun H locs hP hD hS => ?_)
                        cases h
                        exact x_retM C0 rfl hP hD hS dX4_order_344
                      have h := xf c44 h
                      by_cases c47 : v1 = (113 : Int32)
                      · have h := xt c47 h
                        refine lv_tableIn (tgt := 395) hx hb dX4_order_248 (by rw [c47]; decide) (by rw [c47]; decide) (off := 147) (by rw [c47]; rfl) (by decide) ?_
                        refine lv_aload_n hx hb dX4_order_395 rfl (lv_at hl 0 rfl) ?_
                        refine lv_iload hx hb dX4_order_396 (lv_at hl 3 rfl) ?_
                        obtain ⟨x48, h49, h⟩ := bE h
                        refine x_MV (As := [.int v7.1]) (rest := []) (wr := (([2, 3, 4, 5, 6] : List Nat).filterMap (fun i => (wM cI cZ o b v11.2)[i]?))) (W1 := wM cI cZ o b (M0 v11.2 x48.2)) hF (c_X4_turns l D cI cZ cT _ o (wMf b v11.2) (b 0) rfl v11.2.1 v7.1 x48 h49) (cwV 1 hts (gqV mw_531 mw_532 mw_533 mw_428 mw_486) rfl rfl rfl hd_X4_turns ⟨Nat.le_of_ble_eq_true rfl, Nat.le_of_ble_eq_true rfl⟩) hK hP hD hS hA q_T_bl (fun _ _ _ => trivial) [0, 1] [2, 3, 4, 5, 6] [5, 6, 0, 1, 2, 3, 4] rfl rfl ⟨rfl, rfl, rfl, rfl⟩ rfl rfl rfl rfl hl.1 rfl (Nat.le_of_ble_eq_true rfl) dX4_order_398 ⟨Nat.zero_le _, Nat.zero_le _⟩ (fun H locs hP hD hS => ?_)
                        cases h
                        exact x_retM C0 rfl hP hD hS dX4_order_401
                      have h := xf c47 h
                      by_cases c50 : v1 = (114 : Int32)
                      · have h := xt c50 h
                        refine lv_tableIn (tgt := 395) hx hb dX4_order_248 (by rw [c50]; decide) (by rw [c50]; decide) (off := 147) (by rw [c50]; rfl) (by decide) ?_
                        refine lv_aload_n hx hb dX4_order_395 rfl (lv_at hl 0 rfl) ?_
                        refine lv_iload hx hb dX4_order_396 (lv_at hl 3 rfl) ?_
                        obtain ⟨x51, h52, h⟩ := bE h
                        refine x_MV (As := [.int v7.1]) (rest := []) (wr := (([2, 3, 4, 5, 6] : List Nat).filterMap (fun i => (wM cI cZ o b v11.2)[i]?))) (W1 := wM cI cZ o b (M0 v11.2 x51.2)) hF (c_X4_turns l D cI cZ cT _ o (wMf b v11.2) (b 0) rfl v11.2.1 v7.1 x51 h52) (cwV 1 hts (gqV mw_531 mw_532 mw_533 mw_428 mw_486) rfl rfl rfl hd_X4_turns ⟨Nat.le_of_ble_eq_true rfl, Nat.le_of_ble_eq_true rfl⟩) hK hP hD hS hA q_T_bl (fun _ _ _ => trivial) [0, 1] [2, 3, 4, 5, 6] [5, 6, 0, 1, 2, 3, 4] rfl rfl ⟨rfl, rfl, rfl, rfl⟩ rfl rfl rfl rfl hl.1 rfl (Nat.le_of_ble_eq_true rfl) dX4_order_398 ⟨Nat.zero_le _, Nat.zero_le _⟩ (fun H locs hP hD hS => ?_)
                        cases h
                        exact x_retM C0 rfl hP hD hS dX4_order_401
                      have h := xf c50 h
                      by_cases c53 : v1 = (115 : Int32)
                      · have h := xt c53 h
                        refine lv_tableIn (tgt := 345) hx hb dX4_order_248 (by rw [c53]; decide) (by rw [c53]; decide) (off := 97) (by rw [c53]; rfl) (by decide) ?_
                        refine lv_aload_n hx hb dX4_order_345 rfl (lv_at hl 0 rfl) ?_
                        refine lv_iload hx hb dX4_order_346 (lv_at hl 3 rfl) ?_
                        refine lv_iload hx hb dX4_order_348 (lv_at hl 4 rfl) ?_
                        obtain ⟨x54, h55, h⟩ := bE h
                        refine x_MV (As := [.int v7.1, .int v10.1]) (rest := []) (wr := (([2, 3, 4, 5, 6] : List Nat).filterMap (fun i => (wM cI cZ o b v11.2)[i]?))) (W1 := wM cI cZ o b (M0 v11.2 x54.2)) hF (c_X4_takes l D cI cZ cT _ o (wMf b v11.2) (b 0) rfl v11.2.1 v7.1 v10.1 x54 h55) (cwV 2 hts (gqV mw_526 mw_527 mw_528 mw_428 mw_482) rfl rfl rfl hd_X4_takes ⟨Nat.le_of_ble_eq_true rfl, Nat.le_of_ble_eq_true rfl⟩) hK hP hD hS hA q_T_bl (fun _ _ _ => trivial) [0, 1] [2, 3, 4, 5, 6] [5, 6, 0, 1, 2, 3, 4] rfl rfl ⟨rfl, rfl, rfl, rfl⟩ rfl rfl rfl rfl hl.1 rfl (Nat.le_of_ble_eq_true rfl) dX4_order_350 ⟨Nat.zero_le _, Nat.zero_le _⟩ (fun H locs hP hD hS => ?_)
                        cases h
                        exact x_retM C0 rfl hP hD hS dX4_order_353
                      have h := xf c53 h
                      by_cases c56 : v1 = (116 : Int32)
                      · have h := xt c56 h
                        refine lv_tableIn (tgt := 388) hx hb dX4_order_248 (by rw [c56]; decide) (by rw [c56]; decide) (off := 140) (by rw [c56]; rfl) (by decide) ?_
                        refine lv_aload_n hx hb dX4_order_388 rfl (lv_at hl 0 rfl) ?_
                        refine lv_iload hx hb dX4_order_389 (lv_at hl 3 rfl) ?_
                        obtain ⟨x57, h58, h⟩ := bE h
                        refine x_MV (As := [.int v7.1]) (rest := []) (wr := (([2, 3, 4, 5, 6] : List Nat).filterMap (fun i => (wM cI cZ o b v11.2)[i]?))) (W1 := wM cI cZ o b (M0 v11.2 x57.2)) hF (c_X4_passes l D cI cZ cT _ o (wMf b v11.2) (b 0) rfl v11.2.1 v7.1 x57 h58) (cwV 1 hts (gqV mw_550 mw_551 mw_552 mw_428 mw_514) rfl rfl rfl hd_X4_passes ⟨Nat.le_of_ble_eq_true rfl, Nat.le_of_ble_eq_true rfl⟩) hK hP hD hS hA q_T_bl (fun _ _ _ => trivial) [0, 1] [2, 3, 4, 5, 6] [5, 6, 0, 1, 2, 3, 4] rfl rfl ⟨rfl, rfl, rfl, rfl⟩ rfl rfl rfl rfl hl.1 rfl (Nat.le_of_ble_eq_true rfl) dX4_order_391 ⟨Nat.zero_le _, Nat.zero_le _⟩ (fun H locs hP hD hS => ?_)
                        cases h
                        exact x_retM C0 rfl hP hD hS dX4_order_394
                      have h := xf c56 h
                      by_cases c59 : v1 = (117 : Int32)
                      · have h := xt c59 h
                        refine lv_tableIn (tgt := 395) hx hb dX4_order_248 (by rw [c59]; decide) (by rw [c59]; decide) (off := 147) (by rw [c59]; rfl) (by decide) ?_
                        refine lv_aload_n hx hb dX4_order_395 rfl (lv_at hl 0 rfl) ?_
                        refine lv_iload hx hb dX4_order_396 (lv_at hl 3 rfl) ?_
                        obtain ⟨x60, h61, h⟩ := bE h
                        refine x_MV (As := [.int v7.1]) (rest := []) (wr := (([2, 3, 4, 5, 6] : List Nat).filterMap (fun i => (wM cI cZ o b v11.2)[i]?))) (W1 := wM cI cZ o b (M0 v11.2 x60.2)) hF (c_X4_turns l D cI cZ cT _ o (wMf b v11.2) (b 0) rfl v11.2.1 v7.1 x60 h61) (cwV 1 hts (gqV mw_531 mw_532 mw_533 mw_428 mw_486) rfl rfl rfl hd_X4_turns ⟨Nat.le_of_ble_eq_true rfl, Nat.le_of_ble_eq_true rfl⟩) hK hP hD hS hA q_T_bl (fun _ _ _ => trivial) [0, 1] [2, 3, 4, 5, 6] [5, 6, 0, 1, 2, 3, 4] rfl rfl ⟨rfl, rfl, rfl, rfl⟩ rfl rfl rfl rfl hl.1 rfl (Nat.le_of_ble_eq_true rfl) dX4_order_398 ⟨Nat.zero_le _, Nat.zero_le _⟩ (fun H locs hP hD hS => ?_)
                        cases h
                        exact x_retM C0 rfl hP hD hS dX4_order_401
                      have h := xf c59 h
                      by_cases c62 : v1 = (118 : Int32)
                      · have h := xt c62 h
                        refine lv_tableIn (tgt := 395) hx hb dX4_order_248 (by rw [c62]; decide) (by rw [c62]; decide) (off := 147) (by rw [c62]; rfl) (by decide) ?_
                        refine lv_aload_n hx hb dX4_order_395 rfl (lv_at hl 0 rfl) ?_
                        refine lv_iload hx hb dX4_order_396 (lv_at hl 3 rfl) ?_
                        obtain ⟨x63, h64, h⟩ := bE h
                        refine x_MV (As := [.int v7.1]) (rest := []) (wr := (([2, 3, 4, 5, 6] : List Nat).filterMap (fun i => (wM cI cZ o b v11.2)[i]?))) (W1 := wM cI cZ o b (M0 v11.2 x63.2)) hF (c_X4_turns l D cI cZ cT _ o (wMf b v11.2) (b 0) rfl v11.2.1 v7.1 x63 h64) (cwV 1 hts (gqV mw_531 mw_532 mw_533 mw_428 mw_486) rfl rfl rfl hd_X4_turns ⟨Nat.le_of_ble_eq_true rfl, Nat.le_of_ble_eq_true rfl⟩) hK hP hD hS hA q_T_bl (fun _ _ _ => trivial) [0, 1] [2, 3, 4, 5, 6] [5, 6, 0, 1, 2, 3, 4] rfl rfl ⟨rfl, rfl, rfl, rfl⟩ rfl rfl rfl rfl hl.1 rfl (Nat.le_of_ble_eq_true rfl) dX4_order_398 ⟨Nat.zero_le _, Nat.zero_le _⟩ (fun H locs hP hD hS => ?_)
                        cases h
                        exact x_retM C0 rfl hP hD hS dX4_order_401
                      have h := xf c62 h
                      by_cases c65 : v1 = (119 : Int32)
                      · have h := xt c65 h
                        refine lv_tableIn (tgt := 365) hx hb dX4_order_248 (by rw [c65]; decide) (by rw [c65]; decide) (off := 117) (by rw [c65]; rfl) (by decide) ?_
                        refine lv_aload_n hx hb dX4_order_365 rfl (lv_at hl 0 rfl) ?_
                        refine lv_iload hx hb dX4_order_366 (lv_at hl 3 rfl) ?_
                        refine lv_iload hx hb dX4_order_368 (lv_at hl 4 rfl) ?_
                        obtain ⟨x66, h67, h⟩ := bE h
                        refine x_MV (As := [.int v7.1, .int v10.1]) (rest := []) (wr := (([2, 3, 4, 5, 6] : List Nat).filterMap (fun i => (wM cI cZ o b v11.2)[i]?))) (W1 := wM cI cZ o b (M0 v11.2 x66.2)) hF (c_X4_settles l D cI cZ cT _ o (wMf b v11.2) (b 0) rfl v11.2.1 v7.1 v10.1 x66 h67) (cwV 2 hts (gqV mw_538 mw_539 mw_540 mw_428 mw_502) rfl rfl rfl hd_X4_settles ⟨Nat.le_of_ble_eq_true rfl, Nat.le_of_ble_eq_true rfl⟩) hK hP hD hS hA q_T_bl (fun _ _ _ => trivial) [0, 1] [2, 3, 4, 5, 6] [5, 6, 0, 1, 2, 3, 4] rfl rfl ⟨rfl, rfl, rfl, rfl⟩ rfl rfl rfl rfl hl.1 rfl (Nat.le_of_ble_eq_true rfl) dX4_order_370 ⟨Nat.zero_le _, Nat.zero_le _⟩ (fun H locs hP hD hS => ?_)
                        cases h
                        exact x_retM C0 rfl hP hD hS dX4_order_373
                      have h := xf c65 h
                      refine lv_tableOut (tgt := 395) hx hb dX4_order_248 (by have := lv_neT c14 (a := 102) rfl; have := lv_neT c17 (a := 103) rfl; have := lv_neT c20 (a := 104) rfl; have := lv_neT c23 (a := 105) rfl; have := lv_neT c26 (a := 106) rfl; have := lv_neT c29 (a := 107) rfl; have := lv_neT c32 (a := 108) rfl; have := lv_neT c35 (a := 109) rfl; have := lv_neT c38 (a := 110) rfl; have := lv_neT c41 (a := 111) rfl; have := lv_neT c44 (a := 112) rfl; have := lv_neT c47 (a := 113) rfl; have := lv_neT c50 (a := 114) rfl; have := lv_neT c53 (a := 115) rfl; have := lv_neT c56 (a := 116) rfl; have := lv_neT c59 (a := 117) rfl; have := lv_neT c62 (a := 118) rfl; have := lv_neT c65 (a := 119) rfl; omega) (by decide) ?_
                      refine lv_aload_n hx hb dX4_order_395 rfl (lv_at hl 0 rfl) ?_
                      refine lv_iload hx hb dX4_order_396 (lv_at hl 3 rfl) ?_
                      obtain ⟨x68, h69, h⟩ := bE h
                      refine x_MV (As := [.int v7.1]) (rest := []) (wr := (([2, 3, 4, 5, 6] : List Nat).filterMap (fun i => (wM cI cZ o b v11.2)[i]?))) (W1 := wM cI cZ o b (M0 v11.2 x68.2)) hF (c_X4_turns l D cI cZ cT _ o (wMf b v11.2) (b 0) rfl v11.2.1 v7.1 x68 h69) (cwV 1 hts (gqV mw_531 mw_532 mw_533 mw_428 mw_486) rfl rfl rfl hd_X4_turns ⟨Nat.le_of_ble_eq_true rfl, Nat.le_of_ble_eq_true rfl⟩) hK hP hD hS hA q_T_bl (fun _ _ _ => trivial) [0, 1] [2, 3, 4, 5, 6] [5, 6, 0, 1, 2, 3, 4] rfl rfl ⟨rfl, rfl, rfl, rfl⟩ rfl rfl rfl rfl hl.1 rfl (Nat.le_of_ble_eq_true rfl) dX4_order_398 ⟨Nat.zero_le _, Nat.zero_le _⟩ (fun H locs hP hD hS => ?_)
                      cases h
                      exact x_retM C0 rfl hP hD hS dX4_order_401
                    · have h := xt c12 h
                      refine lv_iconst (v := 0) hx hb dX4_order_245 (by decide) ?_
                      cases h
                      exact x_retM C0 rfl hP hD hS dX4_order_246
                  · refine lv_icmp_ne (tgt := 241) hx hb dX4_order_222 (by decide) (fun c70 => ?_) (fun c70 => ?_)
                    · have h := xf c70 h
                      cases h
                      exact hj _ _ _ hP hD hS (lv_sub hl [0, 1, 2, 3, 4, 5] rfl)
                    · have h := xt c70 h
                      refine lv_aload_n hx hb dX4_order_225 rfl (lv_at hl 0 rfl) ?_
                      refine lv_bipush (v := 47) hx hb dX4_order_226 (by decide) ?_
                      refine lv_bipush (v := 47) hx hb dX4_order_228 (by decide) ?_
                      obtain ⟨x71, h72, h⟩ := bE h
                      refine x_MV (As := [.int (47 : Int32), .int (47 : Int32)]) (rest := []) (wr := []) (W1 := wM cI cZ o b x71.2) hF (c_X4_sign l D cI cZ cT _ o b v10.2 (47 : Int32) (47 : Int32) x71 h72) (cwV 2 hts (gqV mw_597 mw_598 mw_599 mw_428 mw_593) rfl rfl rfl hd_X4_sign ⟨Nat.le_of_ble_eq_true rfl, Nat.le_of_ble_eq_true rfl⟩) hK hP hD hS hA q_T_bl (fun _ _ _ => trivial) [0, 1, 2, 3, 4, 5, 6] [] [0, 1, 2, 3, 4, 5, 6] rfl rfl ⟨rfl, rfl, rfl, rfl⟩ rfl rfl rfl rfl hl.1 rfl (Nat.le_of_ble_eq_true rfl) dX4_order_230 ⟨Nat.zero_le _, Nat.zero_le _⟩ (fun H locs hP hD hS => ?_)
                      refine lv_istore (lv' := [(7, .int x71.1), (0, .ref o), (1, .int a1), (2, .int v1), (4, .int v7.1), (5, .int v10.1), (6, .int (0 : Int32))]) hx hb dX4_order_233 hl (by decide) rfl (fun ls hl => ?_)
                      refine lv_aload_n hx hb dX4_order_235 rfl (lv_at hl 1 rfl) ?_
                      obtain ⟨x73, h74, h⟩ := bE h
                      refine x_MV (As := []) (rest := []) (wr := []) (W1 := wM cI cZ o b x73.2) hF (c_X4_digit l D cI cZ cT _ o b x71.2  x73 h74) (cwV 0 hts (gqV mw_601 mw_602 mw_603 mw_428 mw_596) rfl rfl rfl hd_X4_digit ⟨Nat.le_of_ble_eq_true rfl, Nat.le_of_ble_eq_true rfl⟩) hK hP hD hS hA q_T_bl (fun _ _ _ => trivial) [0, 1, 2, 3, 4, 5, 6] [] [0, 1, 2, 3, 4, 5, 6] rfl rfl ⟨rfl, rfl, rfl, rfl⟩ rfl rfl rfl rfl hl.1 rfl (Nat.le_of_ble_eq_true rfl) dX4_order_236 ⟨Nat.zero_le _, Nat.zero_le _⟩ (fun H locs hP hD hS => ?_)
                      refine lv_istore (lv' := [(6, .int x73.1), (7, .int x71.1), (0, .ref o), (1, .int a1), (2, .int v1), (4, .int v7.1), (5, .int v10.1)]) hx hb dX4_order_239 hl (by decide) rfl (fun ls hl => ?_)
                      cases h
                      exact hj _ _ _ hP hD hS (lv_sub hl [2, 3, 4, 5, 6, 0] rfl)
                · refine lv_icmp_eq (tgt := 213) hx hb dX4_order_192 (by decide) (fun c75 => ?_) (fun c75 => ?_)
                  · have h := xt c75 h
                    refine lv_aload_n hx hb dX4_order_213 rfl (lv_at hl 0 rfl) ?_
                    obtain ⟨x76, h77, h⟩ := bE h
                    refine x_MV (As := []) (rest := []) (wr := []) (W1 := wM cI cZ o b x76.2) hF (c_X4_digit l D cI cZ cT _ o b v9  x76 h77) (cwV 0 hts (gqV mw_601 mw_602 mw_603 mw_428 mw_596) rfl rfl rfl hd_X4_digit ⟨Nat.le_of_ble_eq_true rfl, Nat.le_of_ble_eq_true rfl⟩) hK hP hD hS hA q_T_bl (fun _ _ _ => trivial) [0, 1, 2, 3, 4, 5, 6] [] [0, 1, 2, 3, 4, 5, 6] rfl rfl ⟨rfl, rfl, rfl, rfl⟩ rfl rfl rfl rfl hl.1 rfl (Nat.le_of_ble_eq_true rfl) dX4_order_214 ⟨Nat.zero_le _, Nat.zero_le _⟩ (fun H locs hP hD hS => ?_)
                    refine lv_istore (lv' := [(5, .int x76.1), (0, .ref o), (1, .int a1), (2, .int v1), (4, .int v7.1), (6, .int (0 : Int32))]) hx hb dX4_order_217 hl (by decide) rfl (fun ls hl => ?_)
                    cases h
                    exact hj _ _ _ hP hD hS (lv_sub hl [1, 2, 3, 4, 0, 5] rfl)
                  · have h := xf c75 h
                    refine lv_iload_n hx hb dX4_order_195 rfl (lv_at hl 2 rfl) ?_
                    refine lv_bipush (v := 115) hx hb dX4_order_196 (by decide) ?_
                    refine lv_icmp_eq (tgt := 213) hx hb dX4_order_198 (by decide) (fun c78 => ?_) (fun c78 => ?_)
                    · have h := xt c78 h
                      refine lv_aload_n hx hb dX4_order_213 rfl (lv_at hl 0 rfl) ?_
                      obtain ⟨x79, h80, h⟩ := bE h
                      refine x_MV (As := []) (rest := []) (wr := []) (W1 := wM cI cZ o b x79.2) hF (c_X4_digit l D cI cZ cT _ o b v9  x79 h80) (cwV 0 hts (gqV mw_601 mw_602 mw_603 mw_428 mw_596) rfl rfl rfl hd_X4_digit ⟨Nat.le_of_ble_eq_true rfl, Nat.le_of_ble_eq_true rfl⟩) hK hP hD hS hA q_T_bl (fun _ _ _ => trivial) [0, 1, 2, 3, 4, 5, 6] [] [0, 1, 2, 3, 4, 5, 6] rfl rfl ⟨rfl, rfl, rfl, rfl⟩ rfl rfl rfl rfl hl.1 rfl (Nat.le_of_ble_eq_true rfl) dX4_order_214 ⟨Nat.zero_le _, Nat.zero_le _⟩ (fun H locs hP hD hS => ?_)
                      refine lv_istore (lv' := [(5, .int x79.1), (0, .ref o), (1, .int a1), (2, .int v1), (4, .int v7.1), (6, .int (0 : Int32))]) hx hb dX4_order_217 hl (by decide) rfl (fun ls hl => ?_)
                      cases h
                      exact hj _ _ _ hP hD hS (lv_sub hl [1, 2, 3, 4, 0, 5] rfl)
                    · have h := xf c78 h
                      refine lv_iload_n hx hb dX4_order_201 rfl (lv_at hl 2 rfl) ?_
                      refine lv_bipush (v := 105) hx hb dX4_order_202 (by decide) ?_
                      refine lv_icmp_eq (tgt := 213) hx hb dX4_order_204 (by decide) (fun c81 => ?_) (fun c81 => ?_)
                      · have h := xt c81 h
                        refine lv_aload_n hx hb dX4_order_213 rfl (lv_at hl 0 rfl) ?_
                        obtain ⟨x82, h83, h⟩ := bE h
                        refine x_MV (As := []) (rest := []) (wr := []) (W1 := wM cI cZ o b x82.2) hF (c_X4_digit l D cI cZ cT _ o b v9  x82 h83) (cwV 0 hts (gqV mw_601 mw_602 mw_603 mw_428 mw_596) rfl rfl rfl hd_X4_digit ⟨Nat.le_of_ble_eq_true rfl, Nat.le_of_ble_eq_true rfl⟩) hK hP hD hS hA q_T_bl (fun _ _ _ => trivial) [0, 1, 2, 3, 4, 5, 6] [] [0, 1, 2, 3, 4, 5, 6] rfl rfl ⟨rfl, rfl, rfl, rfl⟩ rfl rfl rfl rfl hl.1 rfl (Nat.le_of_ble_eq_true rfl) dX4_order_214 ⟨Nat.zero_le _, Nat.zero_le _⟩ (fun H locs hP hD hS => ?_)
                        refine lv_istore (lv' := [(5, .int x82.1), (0, .ref o), (1, .int a1), (2, .int v1), (4, .int v7.1), (6, .int (0 : Int32))]) hx hb dX4_order_217 hl (by decide) rfl (fun ls hl => ?_)
                        cases h
                        exact hj _ _ _ hP hD hS (lv_sub hl [1, 2, 3, 4, 0, 5] rfl)
                      · have h := xf c81 h
                        refine lv_iload_n hx hb dX4_order_207 rfl (lv_at hl 2 rfl) ?_
                        refine lv_bipush (v := 119) hx hb dX4_order_208 (by decide) ?_
                        refine lv_icmp_ne (tgt := 219) hx hb dX4_order_210 (by decide) (fun c84 => ?_) (fun c84 => ?_)
                        · have h := xf c84 h
                          cases h
                          exact hj _ _ _ hP hD hS (lv_sub hl [0, 1, 2, 3, 4, 5] rfl)
                        · have h := xt c84 h
                          refine lv_aload_n hx hb dX4_order_213 rfl (lv_at hl 0 rfl) ?_
                          obtain ⟨x85, h86, h⟩ := bE h
                          refine x_MV (As := []) (rest := []) (wr := []) (W1 := wM cI cZ o b x85.2) hF (c_X4_digit l D cI cZ cT _ o b v9  x85 h86) (cwV 0 hts (gqV mw_601 mw_602 mw_603 mw_428 mw_596) rfl rfl rfl hd_X4_digit ⟨Nat.le_of_ble_eq_true rfl, Nat.le_of_ble_eq_true rfl⟩) hK hP hD hS hA q_T_bl (fun _ _ _ => trivial) [0, 1, 2, 3, 4, 5, 6] [] [0, 1, 2, 3, 4, 5, 6] rfl rfl ⟨rfl, rfl, rfl, rfl⟩ rfl rfl rfl rfl hl.1 rfl (Nat.le_of_ble_eq_true rfl) dX4_order_214 ⟨Nat.zero_le _, Nat.zero_le _⟩ (fun H locs hP hD hS => ?_)
                          refine lv_istore (lv' := [(5, .int x85.1), (0, .ref o), (1, .int a1), (2, .int v1), (4, .int v7.1), (6, .int (0 : Int32))]) hx hb dX4_order_217 hl (by decide) rfl (fun ls hl => ?_)
                          cases h
                          exact hj _ _ _ hP hD hS (lv_sub hl [1, 2, 3, 4, 0, 5] rfl)
              · refine lv_icmp_ne (tgt := 189) hx hb dX4_order_176 (by decide) (fun c87 => ?_) (fun c87 => ?_)
                · have h := xf c87 h
                  cases h
                  exact hj _ _ _ hP hD hS (lv_sub hl [0, 1, 2, 3, 4, 5] rfl)
                · have h := xt c87 h
                  refine lv_aload_n hx hb dX4_order_179 rfl (lv_at hl 0 rfl) ?_
                  refine lv_bipush (v := 46) hx hb dX4_order_180 (by decide) ?_
                  refine lv_bipush (v := 46) hx hb dX4_order_182 (by decide) ?_
                  obtain ⟨x88, h89, h⟩ := bE h
                  refine x_MV (As := [.int (46 : Int32), .int (46 : Int32)]) (rest := []) (wr := []) (W1 := wM cI cZ o b x88.2) hF (c_X4_sign l D cI cZ cT _ o b v8 (46 : Int32) (46 : Int32) x88 h89) (cwV 2 hts (gqV mw_597 mw_598 mw_599 mw_428 mw_593) rfl rfl rfl hd_X4_sign ⟨Nat.le_of_ble_eq_true rfl, Nat.le_of_ble_eq_true rfl⟩) hK hP hD hS hA q_T_bl (fun _ _ _ => trivial) [0, 1, 2, 3, 4, 5, 6] [] [0, 1, 2, 3, 4, 5, 6] rfl rfl ⟨rfl, rfl, rfl, rfl⟩ rfl rfl rfl rfl hl.1 rfl (Nat.le_of_ble_eq_true rfl) dX4_order_184 ⟨Nat.zero_le _, Nat.zero_le _⟩ (fun H locs hP hD hS => ?_)
                  refine lv_istore (lv' := [(7, .int x88.1), (0, .ref o), (1, .int a1), (2, .int v1), (4, .int v7.1), (5, .int (0 : Int32)), (6, .int (0 : Int32))]) hx hb dX4_order_187 hl (by decide) rfl (fun ls hl => ?_)
                  cases h
                  exact hj _ _ _ hP hD hS (lv_sub hl [1, 2, 3, 4, 5, 6] rfl)
            · refine lv_icmp_ne (tgt := 173) hx hb dX4_order_160 (by decide) (fun c90 => ?_) (fun c90 => ?_)
              · have h := xf c90 h
                cases h
                exact hj _ _ _ hP hD hS (lv_sub hl [3, 4, 5, 2, 1, 0] rfl)
              · have h := xt c90 h
                refine lv_aload_n hx hb dX4_order_163 rfl (lv_at hl 3 rfl) ?_
                refine lv_bipush (v := 62) hx hb dX4_order_164 (by decide) ?_
                refine lv_bipush (v := 62) hx hb dX4_order_166 (by decide) ?_
                obtain ⟨x91, h92, h⟩ := bE h
                refine x_MV (As := [.int (62 : Int32), .int (62 : Int32)]) (rest := []) (wr := []) (W1 := wM cI cZ o b x91.2) hF (c_X4_sign l D cI cZ cT _ o b v7.2 (62 : Int32) (62 : Int32) x91 h92) (cwV 2 hts (gqV mw_597 mw_598 mw_599 mw_428 mw_593) rfl rfl rfl hd_X4_sign ⟨Nat.le_of_ble_eq_true rfl, Nat.le_of_ble_eq_true rfl⟩) hK hP hD hS hA q_T_bl (fun _ _ _ => trivial) [0, 1, 2, 3, 4, 5, 6] [] [0, 1, 2, 3, 4, 5, 6] rfl rfl ⟨rfl, rfl, rfl, rfl⟩ rfl rfl rfl rfl hl.1 rfl (Nat.le_of_ble_eq_true rfl) dX4_order_168 ⟨Nat.zero_le _, Nat.zero_le _⟩ (fun H locs hP hD hS => ?_)
                refine lv_istore (lv' := [(7, .int x91.1), (6, .int (0 : Int32)), (5, .int (0 : Int32)), (4, .int v7.1), (0, .ref o), (1, .int a1), (2, .int v1)]) hx hb dX4_order_171 hl (by decide) rfl (fun ls hl => ?_)
                cases h
                exact hj _ _ _ hP hD hS (lv_sub hl [4, 5, 6, 3, 2, 1] rfl)
          · refine lv_icmp_eq (tgt := 138) hx hb dX4_order_123 (by decide) (fun c93 => ?_) (fun c93 => ?_)
            · have h := xt c93 h
              refine lv_aload_n hx hb dX4_order_138 rfl (lv_at hl 0 rfl) ?_
              obtain ⟨x94, h95, h⟩ := bE h
              refine x_MV (As := []) (rest := []) (wr := []) (W1 := wM cI cZ o b x94.2) hF (c_X4_number l D cI cZ cT _ o b (M8 (M9 t v3) ((M9 t v3).2.2.2.2.2.2.2.2.1 + v6))  x94 h95) (cwV 0 hts (gqV mw_604 mw_605 mw_606 mw_428 mw_600) rfl rfl rfl hd_X4_number ⟨Nat.le_of_ble_eq_true rfl, Nat.le_of_ble_eq_true rfl⟩) hK hP hD hS hA q_T_bl (fun _ _ _ => trivial) [0, 1, 2, 3, 4, 5, 6] [] [0, 1, 2, 3, 4, 5, 6] rfl rfl ⟨rfl, rfl, rfl, rfl⟩ rfl rfl rfl rfl hl.1 rfl (Nat.le_of_ble_eq_true rfl) dX4_order_139 ⟨Nat.zero_le _, Nat.zero_le _⟩ (fun H locs hP hD hS => ?_)
              refine lv_goto (tgt := 149) hx hb dX4_order_142 (by decide) ?_
              cases h
              exact hj _ _ _ hP hD hS (lv_sub hl [0, 1, 2] rfl)
            · have h := xf c93 h
              refine lv_iload_n hx hb dX4_order_126 rfl (lv_at hl 2 rfl) ?_
              refine lv_bipush (v := 102) hx hb dX4_order_127 (by decide) ?_
              refine lv_icmp_eq (tgt := 138) hx hb dX4_order_129 (by decide) (fun c96 => ?_) (fun c96 => ?_)
              · have h := xt c96 h
                refine lv_aload_n hx hb dX4_order_138 rfl (lv_at hl 0 rfl) ?_
                obtain ⟨x97, h98, h⟩ := bE h
                refine x_MV (As := []) (rest := []) (wr := []) (W1 := wM cI cZ o b x97.2) hF (c_X4_number l D cI cZ cT _ o b (M8 (M9 t v3) ((M9 t v3).2.2.2.2.2.2.2.2.1 + v6))  x97 h98) (cwV 0 hts (gqV mw_604 mw_605 mw_606 mw_428 mw_600) rfl rfl rfl hd_X4_number ⟨Nat.le_of_ble_eq_true rfl, Nat.le_of_ble_eq_true rfl⟩) hK hP hD hS hA q_T_bl (fun _ _ _ => trivial) [0, 1, 2, 3, 4, 5, 6] [] [0, 1, 2, 3, 4, 5, 6] rfl rfl ⟨rfl, rfl, rfl, rfl⟩ rfl rfl rfl rfl hl.1 rfl (Nat.le_of_ble_eq_true rfl) dX4_order_139 ⟨Nat.zero_le _, Nat.zero_le _⟩ (fun H locs hP hD hS => ?_)
                refine lv_goto (tgt := 149) hx hb dX4_order_142 (by decide) ?_
                cases h
                exact hj _ _ _ hP hD hS (lv_sub hl [0, 1, 2] rfl)
              · have h := xf c96 h
                refine lv_iload_n hx hb dX4_order_132 rfl (lv_at hl 2 rfl) ?_
                refine lv_bipush (v := 116) hx hb dX4_order_133 (by decide) ?_
                refine lv_icmp_ne (tgt := 145) hx hb dX4_order_135 (by decide) (fun c99 => ?_) (fun c99 => ?_)
                · have h := xf c99 h
                  refine lv_aload_n hx hb dX4_order_145 rfl (lv_at hl 0 rfl) ?_
                  obtain ⟨x100, h101, h⟩ := bE h
                  refine x_MV (As := []) (rest := []) (wr := []) (W1 := wM cI cZ o b x100.2) hF (c_X4_digit l D cI cZ cT _ o b (M8 (M9 t v3) ((M9 t v3).2.2.2.2.2.2.2.2.1 + v6))  x100 h101) (cwV 0 hts (gqV mw_601 mw_602 mw_603 mw_428 mw_596) rfl rfl rfl hd_X4_digit ⟨Nat.le_of_ble_eq_true rfl, Nat.le_of_ble_eq_true rfl⟩) hK hP hD hS hA q_T_bl (fun _ _ _ => trivial) [0, 1, 2, 3, 4, 5, 6] [] [0, 1, 2, 3, 4, 5, 6] rfl rfl ⟨rfl, rfl, rfl, rfl⟩ rfl rfl rfl rfl hl.1 rfl (Nat.le_of_ble_eq_true rfl) dX4_order_146 ⟨Nat.zero_le _, Nat.zero_le _⟩ (fun H locs hP hD hS => ?_)
                  cases h
                  exact hj _ _ _ hP hD hS (lv_sub hl [0, 1, 2] rfl)
                · have h := xt c99 h
                  refine lv_aload_n hx hb dX4_order_138 rfl (lv_at hl 0 rfl) ?_
                  obtain ⟨x102, h103, h⟩ := bE h
                  refine x_MV (As := []) (rest := []) (wr := []) (W1 := wM cI cZ o b x102.2) hF (c_X4_number l D cI cZ cT _ o b (M8 (M9 t v3) ((M9 t v3).2.2.2.2.2.2.2.2.1 + v6))  x102 h103) (cwV 0 hts (gqV mw_604 mw_605 mw_606 mw_428 mw_600) rfl rfl rfl hd_X4_number ⟨Nat.le_of_ble_eq_true rfl, Nat.le_of_ble_eq_true rfl⟩) hK hP hD hS hA q_T_bl (fun _ _ _ => trivial) [0, 1, 2, 3, 4, 5, 6] [] [0, 1, 2, 3, 4, 5, 6] rfl rfl ⟨rfl, rfl, rfl, rfl⟩ rfl rfl rfl rfl hl.1 rfl (Nat.le_of_ble_eq_true rfl) dX4_order_139 ⟨Nat.zero_le _, Nat.zero_le _⟩ (fun H locs hP hD hS => ?_)
                  refine lv_goto (tgt := 149) hx hb dX4_order_142 (by decide) ?_
                  cases h
                  exact hj _ _ _ hP hD hS (lv_sub hl [0, 1, 2] rfl)
        · refine lv_if_eq (tgt := 115) hx hb dX4_order_108 (by decide) (fun c104 => ?_) (fun c104 => ?_)
          · have h := xt c104 h
            refine lv_iconst (v := 1) hx hb dX4_order_115 (by decide) ?_
            cases h
            exact hj _ (lv_sub hl [0, 1, 2] rfl)
          · have h := xf c104 h
            refine lv_iconst (v := 0) hx hb dX4_order_111 (by decide) ?_
            refine lv_goto (tgt := 116) hx hb dX4_order_112 (by decide) ?_
            cases h
            exact hj _ (lv_sub hl [0, 1, 2] rfl)
      · refine lv_if_ne (tgt := 91) hx hb dX4_order_84 (by decide) (fun c105 => ?_) (fun c105 => ?_)
        · have h := xf c105 h
          refine lv_iconst (v := 1) hx hb dX4_order_91 (by decide) ?_
          refine lv_goto (tgt := 96) hx hb dX4_order_92 (by decide) ?_
          cases h
          exact hj _ (lv_sub hl [1, 2, 3] rfl)
        · have h := xt c105 h
          refine lv_iload_n hx hb dX4_order_87 rfl (lv_at hl 0 rfl) ?_
          refine lv_if_ne (tgt := 95) hx hb dX4_order_88 (by decide) (fun c106 => ?_) (fun c106 => ?_)
          · have h := xf c106 h
            refine lv_iconst (v := 0) hx hb dX4_order_95 (by decide) ?_
            cases h
            exact hj _ (lv_sub hl [1, 2, 3] rfl)
          · have h := xt c106 h
            refine lv_iconst (v := 1) hx hb dX4_order_91 (by decide) ?_
            refine lv_goto (tgt := 96) hx hb dX4_order_92 (by decide) ?_
            cases h
            exact hj _ (lv_sub hl [1, 2, 3] rfl)
    · refine lv_icmp_eq (tgt := 73) hx hb dX4_order_28 (by decide) (fun c107 => ?_) (fun c107 => ?_)
      · have h := xt c107 h
        refine lv_iconst (v := 1) hx hb dX4_order_73 (by decide) ?_
        refine lv_goto (tgt := 78) hx hb dX4_order_74 (by decide) ?_
        cases h
        exact hj _ (lv_sub hl [1, 2, 0] rfl)
      · have h := xf c107 h
        refine lv_iload_n hx hb dX4_order_31 rfl (lv_at hl 0 rfl) ?_
        refine lv_bipush (v := 115) hx hb dX4_order_32 (by decide) ?_
        refine lv_icmp_eq (tgt := 73) hx hb dX4_order_34 (by decide) (fun c108 => ?_) (fun c108 => ?_)
        · have h := xt c108 h
          refine lv_iconst (v := 1) hx hb dX4_order_73 (by decide) ?_
          refine lv_goto (tgt := 78) hx hb dX4_order_74 (by decide) ?_
          cases h
          exact hj _ (lv_sub hl [1, 2, 0] rfl)
        · have h := xf c108 h
          refine lv_iload_n hx hb dX4_order_37 rfl (lv_at hl 0 rfl) ?_
          refine lv_bipush (v := 105) hx hb dX4_order_38 (by decide) ?_
          refine lv_icmp_eq (tgt := 73) hx hb dX4_order_40 (by decide) (fun c109 => ?_) (fun c109 => ?_)
          · have h := xt c109 h
            refine lv_iconst (v := 1) hx hb dX4_order_73 (by decide) ?_
            refine lv_goto (tgt := 78) hx hb dX4_order_74 (by decide) ?_
            cases h
            exact hj _ (lv_sub hl [1, 2, 0] rfl)
          · have h := xf c109 h
            refine lv_iload_n hx hb dX4_order_43 rfl (lv_at hl 0 rfl) ?_
            refine lv_bipush (v := 119) hx hb dX4_order_44 (by decide) ?_
            refine lv_icmp_eq (tgt := 73) hx hb dX4_order_46 (by decide) (fun c110 => ?_) (fun c110 => ?_)
            · have h := xt c110 h
              refine lv_iconst (v := 1) hx hb dX4_order_73 (by decide) ?_
              refine lv_goto (tgt := 78) hx hb dX4_order_74 (by decide) ?_
              cases h
              exact hj _ (lv_sub hl [1, 2, 0] rfl)
            · have h := xf c110 h
              refine lv_iload_n hx hb dX4_order_49 rfl (lv_at hl 0 rfl) ?_
              refine lv_bipush (v := 102) hx hb dX4_order_50 (by decide) ?_
              refine lv_icmp_eq (tgt := 73) hx hb dX4_order_52 (by decide) (fun c111 => ?_) (fun c111 => ?_)
              · have h := xt c111 h
                refine lv_iconst (v := 1) hx hb dX4_order_73 (by decide) ?_
                refine lv_goto (tgt := 78) hx hb dX4_order_74 (by decide) ?_
                cases h
                exact hj _ (lv_sub hl [1, 2, 0] rfl)
              · have h := xf c111 h
                refine lv_iload_n hx hb dX4_order_55 rfl (lv_at hl 0 rfl) ?_
                refine lv_bipush (v := 111) hx hb dX4_order_56 (by decide) ?_
                refine lv_icmp_eq (tgt := 73) hx hb dX4_order_58 (by decide) (fun c112 => ?_) (fun c112 => ?_)
                · have h := xt c112 h
                  refine lv_iconst (v := 1) hx hb dX4_order_73 (by decide) ?_
                  refine lv_goto (tgt := 78) hx hb dX4_order_74 (by decide) ?_
                  cases h
                  exact hj _ (lv_sub hl [1, 2, 0] rfl)
                · have h := xf c112 h
                  refine lv_iload_n hx hb dX4_order_61 rfl (lv_at hl 0 rfl) ?_
                  refine lv_bipush (v := 116) hx hb dX4_order_62 (by decide) ?_
                  refine lv_icmp_eq (tgt := 73) hx hb dX4_order_64 (by decide) (fun c113 => ?_) (fun c113 => ?_)
                  · have h := xt c113 h
                    refine lv_iconst (v := 1) hx hb dX4_order_73 (by decide) ?_
                    refine lv_goto (tgt := 78) hx hb dX4_order_74 (by decide) ?_
                    cases h
                    exact hj _ (lv_sub hl [1, 2, 0] rfl)
                  · have h := xf c113 h
                    refine lv_iload_n hx hb dX4_order_67 rfl (lv_at hl 0 rfl) ?_
                    refine lv_bipush (v := 97) hx hb dX4_order_68 (by decide) ?_
                    refine lv_icmp_ne (tgt := 77) hx hb dX4_order_70 (by decide) (fun c114 => ?_) (fun c114 => ?_)
                    · have h := xf c114 h
                      refine lv_iconst (v := 0) hx hb dX4_order_77 (by decide) ?_
                      cases h
                      exact hj _ (lv_sub hl [1, 2, 0] rfl)
                    · have h := xt c114 h
                      refine lv_iconst (v := 1) hx hb dX4_order_73 (by decide) ?_
                      refine lv_goto (tgt := 78) hx hb dX4_order_74 (by decide) ?_
                      cases h
                      exact hj _ (lv_sub hl [1, 2, 0] rfl)
  · refine lv_icmp_ge (tgt := 23) hx hb dX4_order_8 (by decide) (fun c115 => ?_) (fun c115 => ?_)
    · have h := xt c115 h
      refine lv_iconst (v := 0) hx hb dX4_order_23 (by decide) ?_
      cases h
      exact hj _ (lv_sub hl [0, 1] rfl)
    · have h := xf c115 h
      refine lv_aload_n hx hb dX4_order_11 rfl (lv_at hl 0 rfl) ?_
      refine va_get (D := D) (v := .ref (b 6)) (C := RX4) (T := TX4) (N := 10) hx hb hts iw_X4 hown hK hP 0 rfl rfl 6 (by decide) (hts _ mw_420) (fun _ h9 => h9) rfl dX4_order_12 ?_
      refine lv_aload_n hx hb dX4_order_15 rfl (lv_at hl 0 rfl) ?_
      refine va_get (D := D) (v := .int t.2.2.2.2.2.2.2.2.1) (C := RX4) (T := TX4) (N := 10) hx hb hts iw_X4 hown hK hP 0 rfl rfl 8 (by decide) (hts _ mw_594) (fun _ h9 => h9) rfl dX4_order_16 ?_
      obtain ⟨x116, h117, h⟩ := bE h
      refine x_iald (cA := cI) hx hb hK hP 6 0 rfl rfl h117 dX4_order_19 ?_
      refine lv_goto (tgt := 24) hx hb dX4_order_20 (by decide) ?_
      cases h
      exact hj _ (lv_sub hl [0, 1] rfl)

/-! QuarrelWaysModel.go (Z)I -/
def f_X4_go_L14 (y1 : Int32) : Nat → MM → Int32 → Int32 → Option (Int32 × MM)
  | 0, _, _, _ => none
  | n + 1, z0, y2, y3 => (if y3 = 0 then some (y2, z0) else ((f_X4_order z0 y1).bind fun x2 => (if 0 ≤ x2.1 then (((if x2.2.2.2.2.2.2.2.2.2.2 = 0 then (if x2.2.2.2.2.2.2.2.2.1 ≤ x2.2.2.2.2.2.2.2.2.2.1 then some (0 : Int32) else some (1 : Int32)) else some (0 : Int32)) : Option (Int32)).bind fun v5 => (if v5 = 0 then f_X4_go_L14 y1 n x2.2 (y2 + (1 : Int32)) v5 else ((f_X4_sign x2.2 (59 : Int32) (59 : Int32)).bind fun x7 => (if x7.2.2.2.2.2.2.2.2.2.2 = 0 then f_X4_go_L14 y1 n x7.2 (y2 + (1 : Int32)) (1 : Int32) else f_X4_go_L14 y1 n x7.2 (y2 + (1 : Int32)) (0 : Int32))))) else (if x2.1 = (-6 : Int32) then (((if x2.2.2.2.2.2.2.2.2.2.2 = 0 then (if x2.2.2.2.2.2.2.2.2.1 ≤ x2.2.2.2.2.2.2.2.2.2.1 then some (0 : Int32) else some (1 : Int32)) else some (0 : Int32)) : Option (Int32)).bind fun v13 => (if v13 = 0 then f_X4_go_L14 y1 n x2.2 (y2 + (1 : Int32)) v13 else ((f_X4_sign x2.2 (59 : Int32) (59 : Int32)).bind fun x15 => (if x15.2.2.2.2.2.2.2.2.2.2 = 0 then f_X4_go_L14 y1 n x15.2 (y2 + (1 : Int32)) (1 : Int32) else f_X4_go_L14 y1 n x15.2 (y2 + (1 : Int32)) (0 : Int32))))) else some (y2, x2.2)))))
def f_X4_go (t : MM) (a1 : Int32) : Option (Int32 × MM) := f_X4_go_L14 a1 2000 (M9 (M8 t (0 : Int32)) (0 : Int32)) (0 : Int32) (1 : Int32)
abbrev rm_X4_go : Room := { frames := 9, cells := 0, slots := 0, locals := 215 }
theorem hd_X4_go : yX4_go.cls = RX4 ∧ yX4_go.cls ≠ "java/lang/invoke/MethodHandle" ∧ yX4_go.cls ≠ "java/lang/invoke/VarHandle" ∧ (parseMethodDescriptor yX4_go.desc).map (fun d => d.parameters.length) = some 1 := by decide +kernel
set_option maxHeartbeats 4000000 in
set_option maxRecDepth 100000 in
theorem k_X4_go_L14 {r : Int32 × MM} (o : Nat) (b : Nat → Nat) (y1 : Int32) (t : MM) (hA : ∀ q, s.heap.size ≤ q → (va_A (wM cI cZ o b t) s.heap.size) q) (C0 : q_At p s m args meth c cX4_go 6 (some .int) RX4) (hK : va_K D vwCl (q_tys cI cZ cT) s) : ∀ (n : Nat) (z0 : MM) (y2 : Int32) (y3 : Int32) (H : Heap) (locs : List Loc) (ls : Array Slot), va_P D vwCl (wM cI cZ o b z0) H → va_D (va_A (wM cI cZ o b t) s.heap.size) (wM cI cZ o b z0) → va_S (va_A (wM cI cZ o b t) s.heap.size) s.heap H locs → lv_has ls 6 [(0, .ref o), (1, .int y1), (2, .int y2), (3, .int y3)] → f_X4_go_L14 y1 n z0 y2 y3 = some r → W p l e rm_X4_go s m args below meth c H locs 0 0 (q_QM D below args s (wM cI cZ o b t) (wM cI cZ o b r.2) r.1) (F0 m 14 ls []) := by
  obtain ⟨hx, hb, hr, hml, hown, hts, hlocks⟩ := id C0
  have hF : CallFix p m c cX4_go 6 s args BW RX4 := ⟨hx, hb, hml, hown, hts⟩
  intro n
  induction n with
  | zero =>
    intro z0 y2 y3 H locs ls hP hD hS hl h
    rw [f_X4_go_L14] at h
    cases h
  | succ n ih =>
    intro z0 y2 y3 H locs ls hP hD hS hl h
    rw [f_X4_go_L14] at h
    refine lv_iload_n hx hb dX4_go_14 rfl (lv_at hl 3 rfl) ?_
    refine lv_if_eq (tgt := 96) hx hb dX4_go_15 (by decide) (fun c1 => ?_) (fun c1 => ?_)
    · have h := xt c1 h
      refine lv_iload_n hx hb dX4_go_96 rfl (lv_at hl 2 rfl) ?_
      cases h
      exact x_retM C0 rfl hP hD hS dX4_go_97
    · have h := xf c1 h
      refine lv_aload_n hx hb dX4_go_18 rfl (lv_at hl 0 rfl) ?_
      refine lv_iload_n hx hb dX4_go_19 rfl (lv_at hl 1 rfl) ?_
      obtain ⟨x2, h3, h⟩ := bE h
      refine x_MV (As := [.int y1]) (rest := []) (wr := []) (W1 := wM cI cZ o b x2.2) hF (c_X4_order l D cI cZ cT _ o b z0 y1 x2 h3) (cwV 1 hts (gqV mw_608 mw_609 mw_610 mw_428 mw_607) rfl rfl rfl hd_X4_order ⟨Nat.le_of_ble_eq_true rfl, Nat.le_of_ble_eq_true rfl⟩) hK hP hD hS hA q_T_bl (fun _ _ _ => trivial) [0, 1, 2, 3, 4, 5, 6] [] [0, 1, 2, 3, 4, 5, 6] rfl rfl ⟨rfl, rfl, rfl, rfl⟩ rfl rfl rfl rfl hl.1 rfl (Nat.le_of_ble_eq_true rfl) dX4_go_20 ⟨Nat.zero_le _, Nat.zero_le _⟩ (fun H locs hP hD hS => ?_)
      refine lv_istore (lv' := [(4, .int x2.1), (0, .ref o), (1, .int y1), (2, .int y2), (3, .int y3)]) hx hb dX4_go_23 hl (by decide) rfl (fun ls hl => ?_)
      refine lv_iload hx hb dX4_go_25 (lv_at hl 0 rfl) ?_
      refine lv_if_ge (tgt := 39) hx hb dX4_go_27 (by decide) (fun c4 => ?_) (fun c4 => ?_)
      · have h := xt c4 h
        refine lv_iinc (v := (y2 + (1 : Int32))) (lv' := [(2, .int (y2 + (1 : Int32))), (4, .int x2.1), (0, .ref o), (1, .int y1), (3, .int y3)]) hx hb dX4_go_39 hl (k := 3) rfl rfl (by decide) rfl (fun ls hl => ?_)
        refine lv_aload_n hx hb dX4_go_42 rfl (lv_at hl 2 rfl) ?_
        refine va_get (D := D) (v := .int x2.2.2.2.2.2.2.2.2.2.2) (C := RX4) (T := TX4) (N := 10) hx hb hts iw_X4 hown hK hP 0 rfl rfl 9 (by decide) (hts _ mw_595) (fun _ h9 => h9) rfl dX4_go_43 ?_
        refine x_j (V := Int32) (nL := 6) (fun v5 => [(0, .ref o), (1, .int y1), (2, .int (y2 + (1 : Int32)))]) 65 (fun v5 => [.int v5]) h (fun v5 h ls hl => ?_) (fun v5 h hj => ?_)
        · refine lv_istore_n (lv' := [(3, .int v5), (0, .ref o), (1, .int y1), (2, .int (y2 + (1 : Int32)))]) hx hb dX4_go_65 rfl hl (by decide) rfl (fun ls hl => ?_)
          refine lv_iload_n hx hb dX4_go_66 rfl (lv_at hl 0 rfl) ?_
          refine lv_if_eq (tgt := 93) hx hb dX4_go_67 (by decide) (fun c6 => ?_) (fun c6 => ?_)
          · have h := xt c6 h
            refine lv_goto (tgt := 14) hx hb dX4_go_93 (by decide) ?_
            exact ih x2.2 (y2 + (1 : Int32)) v5 _ _ _ hP hD hS (lv_sub hl [1, 2, 3, 0] rfl) h
          · have h := xf c6 h
            refine lv_aload_n hx hb dX4_go_70 rfl (lv_at hl 1 rfl) ?_
            refine lv_bipush (v := 59) hx hb dX4_go_71 (by decide) ?_
            refine lv_bipush (v := 59) hx hb dX4_go_73 (by decide) ?_
            obtain ⟨x7, h8, h⟩ := bE h
            refine x_MV (As := [.int (59 : Int32), .int (59 : Int32)]) (rest := []) (wr := []) (W1 := wM cI cZ o b x7.2) hF (c_X4_sign l D cI cZ cT _ o b x2.2 (59 : Int32) (59 : Int32) x7 h8) (cwV 2 hts (gqV mw_597 mw_598 mw_599 mw_428 mw_593) rfl rfl rfl hd_X4_sign ⟨Nat.le_of_ble_eq_true rfl, Nat.le_of_ble_eq_true rfl⟩) hK hP hD hS hA q_T_bl (fun _ _ _ => trivial) [0, 1, 2, 3, 4, 5, 6] [] [0, 1, 2, 3, 4, 5, 6] rfl rfl ⟨rfl, rfl, rfl, rfl⟩ rfl rfl rfl rfl hl.1 rfl (Nat.le_of_ble_eq_true rfl) dX4_go_75 ⟨Nat.zero_le _, Nat.zero_le _⟩ (fun H locs hP hD hS => ?_)
            refine lv_istore (lv' := [(5, .int x7.1), (3, .int v5), (0, .ref o), (1, .int y1), (2, .int (y2 + (1 : Int32)))]) hx hb dX4_go_78 hl (by decide) rfl (fun ls hl => ?_)
            refine lv_aload_n hx hb dX4_go_80 rfl (lv_at hl 2 rfl) ?_
            refine va_get (D := D) (v := .int x7.2.2.2.2.2.2.2.2.2.2) (C := RX4) (T := TX4) (N := 10) hx hb hts iw_X4 hown hK hP 0 rfl rfl 9 (by decide) (hts _ mw_595) (fun _ h9 => h9) rfl dX4_go_81 ?_
            refine lv_if_ne (tgt := 91) hx hb dX4_go_84 (by decide) (fun c9 => ?_) (fun c9 => ?_)
            · have h := xf c9 h
              refine lv_iconst (v := 0) hx hb dX4_go_91 (by decide) ?_
              refine lv_istore_n (lv' := [(3, .int (0 : Int32)), (5, .int x7.1), (0, .ref o), (1, .int y1), (2, .int (y2 + (1 : Int32)))]) hx hb dX4_go_92 rfl hl (by decide) rfl (fun ls hl => ?_)
              refine lv_goto (tgt := 14) hx hb dX4_go_93 (by decide) ?_
              exact ih x7.2 (y2 + (1 : Int32)) (0 : Int32) _ _ _ hP hD hS (lv_sub hl [2, 3, 4, 0] rfl) h
            · have h := xt c9 h
              refine lv_iconst (v := 1) hx hb dX4_go_87 (by decide) ?_
              refine lv_goto (tgt := 92) hx hb dX4_go_88 (by decide) ?_
              refine lv_istore_n (lv' := [(3, .int (1 : Int32)), (5, .int x7.1), (0, .ref o), (1, .int y1), (2, .int (y2 + (1 : Int32)))]) hx hb dX4_go_92 rfl hl (by decide) rfl (fun ls hl => ?_)
              refine lv_goto (tgt := 14) hx hb dX4_go_93 (by decide) ?_
              exact ih x7.2 (y2 + (1 : Int32)) (1 : Int32) _ _ _ hP hD hS (lv_sub hl [2, 3, 4, 0] rfl) h
        · refine lv_if_ne (tgt := 64) hx hb dX4_go_46 (by decide) (fun c10 => ?_) (fun c10 => ?_)
          · have h := xf c10 h
            refine lv_iconst (v := 0) hx hb dX4_go_64 (by decide) ?_
            cases h
            exact hj _ (lv_sub hl [2, 3, 0] rfl)
          · have h := xt c10 h
            refine lv_aload_n hx hb dX4_go_49 rfl (lv_at hl 2 rfl) ?_
            refine va_get (D := D) (v := .int x2.2.2.2.2.2.2.2.2.2.1) (C := RX4) (T := TX4) (N := 10) hx hb hts iw_X4 hown hK hP 0 rfl rfl 8 (by decide) (hts _ mw_594) (fun _ h9 => h9) rfl dX4_go_50 ?_
            refine lv_aload_n hx hb dX4_go_53 rfl (lv_at hl 2 rfl) ?_
            refine va_get (D := D) (v := .int x2.2.2.2.2.2.2.2.2.1) (C := RX4) (T := TX4) (N := 10) hx hb hts iw_X4 hown hK hP 0 rfl rfl 7 (by decide) (hts _ mw_576) (fun _ h9 => h9) rfl dX4_go_54 ?_
            refine lv_icmp_ge (tgt := 64) hx hb dX4_go_57 (by decide) (fun c11 => ?_) (fun c11 => ?_)
            · have h := xt c11 h
              refine lv_iconst (v := 0) hx hb dX4_go_64 (by decide) ?_
              cases h
              exact hj _ (lv_sub hl [2, 3, 0] rfl)
            · have h := xf c11 h
              refine lv_iconst (v := 1) hx hb dX4_go_60 (by decide) ?_
              refine lv_goto (tgt := 65) hx hb dX4_go_61 (by decide) ?_
              cases h
              exact hj _ (lv_sub hl [2, 3, 0] rfl)
      · have h := xf c4 h
        refine lv_iload hx hb dX4_go_30 (lv_at hl 0 rfl) ?_
        refine lv_bipush (v := (-6)) hx hb dX4_go_32 (by decide) ?_
        refine lv_icmp_eq (tgt := 39) hx hb dX4_go_34 (by decide) (fun c12 => ?_) (fun c12 => ?_)
        · have h := xt c12 h
          refine lv_iinc (v := (y2 + (1 : Int32))) (lv' := [(2, .int (y2 + (1 : Int32))), (4, .int x2.1), (0, .ref o), (1, .int y1), (3, .int y3)]) hx hb dX4_go_39 hl (k := 3) rfl rfl (by decide) rfl (fun ls hl => ?_)
          refine lv_aload_n hx hb dX4_go_42 rfl (lv_at hl 2 rfl) ?_
          refine va_get (D := D) (v := .int x2.2.2.2.2.2.2.2.2.2.2) (C := RX4) (T := TX4) (N := 10) hx hb hts iw_X4 hown hK hP 0 rfl rfl 9 (by decide) (hts _ mw_595) (fun _ h9 => h9) rfl dX4_go_43 ?_
          refine x_j (V := Int32) (nL := 6) (fun v13 => [(0, .ref o), (1, .int y1), (2, .int (y2 + (1 : Int32)))]) 65 (fun v13 => [.int v13]) h (fun v13 h ls hl => ?_) (fun v13 h hj => ?_)
          · refine lv_istore_n (lv' := [(3, .int v13), (0, .ref o), (1, .int y1), (2, .int (y2 + (1 : Int32)))]) hx hb dX4_go_65 rfl hl (by decide) rfl (fun ls hl => ?_)
            refine lv_iload_n hx hb dX4_go_66 rfl (lv_at hl 0 rfl) ?_
            refine lv_if_eq (tgt := 93) hx hb dX4_go_67 (by decide) (fun c14 => ?_) (fun c14 => ?_)
            · have h := xt c14 h
              refine lv_goto (tgt := 14) hx hb dX4_go_93 (by decide) ?_
              exact ih x2.2 (y2 + (1 : Int32)) v13 _ _ _ hP hD hS (lv_sub hl [1, 2, 3, 0] rfl) h
            · have h := xf c14 h
              refine lv_aload_n hx hb dX4_go_70 rfl (lv_at hl 1 rfl) ?_
              refine lv_bipush (v := 59) hx hb dX4_go_71 (by decide) ?_
              refine lv_bipush (v := 59) hx hb dX4_go_73 (by decide) ?_
              obtain ⟨x15, h16, h⟩ := bE h
              refine x_MV (As := [.int (59 : Int32), .int (59 : Int32)]) (rest := []) (wr := []) (W1 := wM cI cZ o b x15.2) hF (c_X4_sign l D cI cZ cT _ o b x2.2 (59 : Int32) (59 : Int32) x15 h16) (cwV 2 hts (gqV mw_597 mw_598 mw_599 mw_428 mw_593) rfl rfl rfl hd_X4_sign ⟨Nat.le_of_ble_eq_true rfl, Nat.le_of_ble_eq_true rfl⟩) hK hP hD hS hA q_T_bl (fun _ _ _ => trivial) [0, 1, 2, 3, 4, 5, 6] [] [0, 1, 2, 3, 4, 5, 6] rfl rfl ⟨rfl, rfl, rfl, rfl⟩ rfl rfl rfl rfl hl.1 rfl (Nat.le_of_ble_eq_true rfl) dX4_go_75 ⟨Nat.zero_le _, Nat.zero_le _⟩ (fun H locs hP hD hS => ?_)
              refine lv_istore (lv' := [(5, .int x15.1), (3, .int v13), (0, .ref o), (1, .int y1), (2, .int (y2 + (1 : Int32)))]) hx hb dX4_go_78 hl (by decide) rfl (fun ls hl => ?_)
              refine lv_aload_n hx hb dX4_go_80 rfl (lv_at hl 2 rfl) ?_
              refine va_get (D := D) (v := .int x15.2.2.2.2.2.2.2.2.2.2) (C := RX4) (T := TX4) (N := 10) hx hb hts iw_X4 hown hK hP 0 rfl rfl 9 (by decide) (hts _ mw_595) (fun _ h9 => h9) rfl dX4_go_81 ?_
              refine lv_if_ne (tgt := 91) hx hb dX4_go_84 (by decide) (fun c17 => ?_) (fun c17 => ?_)
              · have h := xf c17 h
                refine lv_iconst (v := 0) hx hb dX4_go_91 (by decide) ?_
                refine lv_istore_n (lv' := [(3, .int (0 : Int32)), (5, .int x15.1), (0, .ref o), (1, .int y1), (2, .int (y2 + (1 : Int32)))]) hx hb dX4_go_92 rfl hl (by decide) rfl (fun ls hl => ?_)
                refine lv_goto (tgt := 14) hx hb dX4_go_93 (by decide) ?_
                exact ih x15.2 (y2 + (1 : Int32)) (0 : Int32) _ _ _ hP hD hS (lv_sub hl [2, 3, 4, 0] rfl) h
              · have h := xt c17 h
                refine lv_iconst (v := 1) hx hb dX4_go_87 (by decide) ?_
                refine lv_goto (tgt := 92) hx hb dX4_go_88 (by decide) ?_
                refine lv_istore_n (lv' := [(3, .int (1 : Int32)), (5, .int x15.1), (0, .ref o), (1, .int y1), (2, .int (y2 + (1 : Int32)))]) hx hb dX4_go_92 rfl hl (by decide) rfl (fun ls hl => ?_)
                refine lv_goto (tgt := 14) hx hb dX4_go_93 (by decide) ?_
                exact ih x15.2 (y2 + (1 : Int32)) (1 : Int32) _ _ _ hP hD hS (lv_sub hl [2, 3, 4, 0] rfl) h
          · refine lv_if_ne (tgt := 64) hx hb dX4_go_46 (by decide) (fun c18 => ?_) (fun c18 => ?_)
            · have h := xf c18 h
              refine lv_iconst (v := 0) hx hb dX4_go_64 (by decide) ?_
              cases h
              exact hj _ (lv_sub hl [2, 3, 0] rfl)
            · have h := xt c18 h
              refine lv_aload_n hx hb dX4_go_49 rfl (lv_at hl 2 rfl) ?_
              refine va_get (D := D) (v := .int x2.2.2.2.2.2.2.2.2.2.1) (C := RX4) (T := TX4) (N := 10) hx hb hts iw_X4 hown hK hP 0 rfl rfl 8 (by decide) (hts _ mw_594) (fun _ h9 => h9) rfl dX4_go_50 ?_
              refine lv_aload_n hx hb dX4_go_53 rfl (lv_at hl 2 rfl) ?_
              refine va_get (D := D) (v := .int x2.2.2.2.2.2.2.2.2.1) (C := RX4) (T := TX4) (N := 10) hx hb hts iw_X4 hown hK hP 0 rfl rfl 7 (by decide) (hts _ mw_576) (fun _ h9 => h9) rfl dX4_go_54 ?_
              refine lv_icmp_ge (tgt := 64) hx hb dX4_go_57 (by decide) (fun c19 => ?_) (fun c19 => ?_)
              · have h := xt c19 h
                refine lv_iconst (v := 0) hx hb dX4_go_64 (by decide) ?_
                cases h
                exact hj _ (lv_sub hl [2, 3, 0] rfl)
              · have h := xf c19 h
                refine lv_iconst (v := 1) hx hb dX4_go_60 (by decide) ?_
                refine lv_goto (tgt := 65) hx hb dX4_go_61 (by decide) ?_
                cases h
                exact hj _ (lv_sub hl [2, 3, 0] rfl)
        · have h := xf c12 h
          refine lv_iload_n hx hb dX4_go_37 rfl (lv_at hl 3 rfl) ?_
          cases h
          exact x_retM C0 rfl hP hD hS dX4_go_38
set_option maxHeartbeats 4000000 in
set_option maxRecDepth 100000 in
theorem c_X4_go (l : Launch) (D : va_G) (cI cZ cT : ClassId) (sz : Nat) (o : Nat) (b : Nat → Nat) (t : MM) (a1 : Int32) (r : Int32 × MM) (h : f_X4_go t a1 = some r) : Met l yX4_go (wq yX4_go cX4_go 6 (some .int)) rm_X4_go (q_M D (q_tys cI cZ cT) sz (wM cI cZ o b t) q_T [.ref o, .int a1]) (va_Qi (fun r' _ => r' = r.1) (q_B D (wM cI cZ o b t) sz (wM cI cZ o b r.2)) (va_A (wM cI cZ o b t) sz)) 0 0 (va_A (wM cI cZ o b t) sz) := by
  refine q_MI (cc := cX4_go) (maxL := 6) (ret := (some .int)) (E := fun sz => q_T) (Qc := fun sz => (va_Qi (fun r' _ => r' = r.1) (q_B D (wM cI cZ o b t) sz (wM cI cZ o b r.2)) (va_A (wM cI cZ o b t) sz))) (free := fun sz => va_A (wM cI cZ o b t) sz) (plainFor_of_name (by decide)) (Nat.le_of_ble_eq_true rfl) (fun p e s m below meth c C0 hname hP hK hD hE ls hl => ?_)
  have hA : ∀ q, s.heap.size ≤ q → (va_A (wM cI cZ o b t) s.heap.size) q := fun _ => Or.inr
  have hS : va_S (va_A (wM cI cZ o b t) s.heap.size) s.heap s.heap [] := va_S.rf
  have hl : lv_has ls 6 [(0, .ref o), (1, .int a1)] := hl
  obtain ⟨hx, hb, hr, hml, hown, hts, hlocks⟩ := id C0
  have hF : CallFix p m c cX4_go 6 s _ BW RX4 := ⟨hx, hb, hml, hown, hts⟩
  rw [f_X4_go] at h
  refine lv_aload_n hx hb dX4_go_0 rfl (lv_at hl 0 rfl) ?_
  refine lv_iconst (v := 0) hx hb dX4_go_1 (by decide) ?_
  refine va_put (D := D) (v := .int (0 : Int32)) (ty := .int) (C := RX4) (T := TX4) (N := 10) hx hb hts iw_X4 tyX4 tyX4_ok nmX4 hown hK hP hD hS 0 rfl rfl 8 (by decide) (hts _ mw_594) (fun _ h9 => h9) rfl (by decide +kernel) rfl rfl (Nat.le_of_ble_eq_true rfl) dX4_go_2 (fun H locs hP hD hS => ?_)
  have hP : va_P D vwCl (wM cI cZ o b (M8 t (0 : Int32))) H := hP
  have hD : va_D (va_A (wM cI cZ o b t) s.heap.size) (wM cI cZ o b (M8 t (0 : Int32))) := hD
  refine lv_aload_n hx hb dX4_go_5 rfl (lv_at hl 0 rfl) ?_
  refine lv_iconst (v := 0) hx hb dX4_go_6 (by decide) ?_
  refine va_put (D := D) (v := .int (0 : Int32)) (ty := .boolean) (C := RX4) (T := TX4) (N := 10) hx hb hts iw_X4 tyX4 tyX4_ok nmX4 hown hK hP hD hS 0 rfl rfl 9 (by decide) (hts _ mw_595) (fun _ h9 => h9) rfl (by decide +kernel) rfl (x_fz rfl) (Nat.le_of_ble_eq_true rfl) dX4_go_7 (fun H locs hP hD hS => ?_)
  have hP : va_P D vwCl (wM cI cZ o b (M9 (M8 t (0 : Int32)) (0 : Int32))) H := hP
  have hD : va_D (va_A (wM cI cZ o b t) s.heap.size) (wM cI cZ o b (M9 (M8 t (0 : Int32)) (0 : Int32))) := hD
  refine lv_iconst (v := 0) hx hb dX4_go_10 (by decide) ?_
  refine lv_istore_n (lv' := [(2, .int (0 : Int32)), (0, .ref o), (1, .int a1)]) hx hb dX4_go_11 rfl hl (by decide) rfl (fun ls hl => ?_)
  refine lv_iconst (v := 1) hx hb dX4_go_12 (by decide) ?_
  refine lv_istore_n (lv' := [(3, .int (1 : Int32)), (2, .int (0 : Int32)), (0, .ref o), (1, .int a1)]) hx hb dX4_go_13 rfl hl (by decide) rfl (fun ls hl => ?_)
  exact k_X4_go_L14 o b a1 t hA C0 hK 2000 (M9 (M8 t (0 : Int32)) (0 : Int32)) (0 : Int32) (1 : Int32) _ _ _ hP hD hS (lv_sub hl [2, 3, 1, 0] rfl) h

/-! QuarrelWaysModel.fault ()I -/
def f_X4_fault (t : MM) : Option (Int32 × MM) := ((f_X4_go t (0 : Int32)).bind fun x1 => (if x1.2.2.2.2.2.2.2.2.2.2 = 0 then some ((-6 : Int32), x1.2) else some (x1.2.2.2.2.2.2.2.2.2.1, x1.2)))
abbrev rm_X4_fault : Room := { frames := 10, cells := 0, slots := 0, locals := 240 }
theorem hd_X4_fault : yX4_fault.cls = RX4 ∧ yX4_fault.cls ≠ "java/lang/invoke/MethodHandle" ∧ yX4_fault.cls ≠ "java/lang/invoke/VarHandle" ∧ (parseMethodDescriptor yX4_fault.desc).map (fun d => d.parameters.length) = some 0 := by decide +kernel
set_option maxHeartbeats 4000000 in
set_option maxRecDepth 100000 in
theorem c_X4_fault (l : Launch) (D : va_G) (cI cZ cT : ClassId) (sz : Nat) (o : Nat) (b : Nat → Nat) (t : MM) (r : Int32 × MM) (h : f_X4_fault t = some r) : Met l yX4_fault (wq yX4_fault cX4_fault 2 (some .int)) rm_X4_fault (q_M D (q_tys cI cZ cT) sz (wM cI cZ o b t) q_T [.ref o]) (va_Qi (fun r' _ => r' = r.1) (q_B D (wM cI cZ o b t) sz (wM cI cZ o b r.2)) (va_A (wM cI cZ o b t) sz)) 0 0 (va_A (wM cI cZ o b t) sz) := by
  refine q_MI (cc := cX4_fault) (maxL := 2) (ret := (some .int)) (E := fun sz => q_T) (Qc := fun sz => (va_Qi (fun r' _ => r' = r.1) (q_B D (wM cI cZ o b t) sz (wM cI cZ o b r.2)) (va_A (wM cI cZ o b t) sz))) (free := fun sz => va_A (wM cI cZ o b t) sz) (plainFor_of_name (by decide)) (Nat.le_of_ble_eq_true rfl) (fun p e s m below meth c C0 hname hP hK hD hE ls hl => ?_)
  have hA : ∀ q, s.heap.size ≤ q → (va_A (wM cI cZ o b t) s.heap.size) q := fun _ => Or.inr
  have hS : va_S (va_A (wM cI cZ o b t) s.heap.size) s.heap s.heap [] := va_S.rf
  have hl : lv_has ls 2 [(0, .ref o)] := hl
  obtain ⟨hx, hb, hr, hml, hown, hts, hlocks⟩ := id C0
  have hF : CallFix p m c cX4_fault 2 s _ BW RX4 := ⟨hx, hb, hml, hown, hts⟩
  rw [f_X4_fault] at h
  refine lv_aload_n hx hb dX4_fault_0 rfl (lv_at hl 0 rfl) ?_
  refine lv_iconst (v := 0) hx hb dX4_fault_1 (by decide) ?_
  obtain ⟨x1, h2, h⟩ := bE h
  refine x_MV (As := [.int (0 : Int32)]) (rest := []) (wr := []) (W1 := wM cI cZ o b x1.2) hF (c_X4_go l D cI cZ cT _ o b t (0 : Int32) x1 h2) (cwV 1 hts (gqV mw_612 mw_613 mw_614 mw_428 mw_611) rfl rfl rfl hd_X4_go ⟨Nat.le_of_ble_eq_true rfl, Nat.le_of_ble_eq_true rfl⟩) hK hP hD hS hA q_T_bl (fun _ _ _ => trivial) [0, 1, 2, 3, 4, 5, 6] [] [0, 1, 2, 3, 4, 5, 6] rfl rfl ⟨rfl, rfl, rfl, rfl⟩ rfl rfl rfl rfl hl.1 rfl (Nat.le_of_ble_eq_true rfl) dX4_fault_2 ⟨Nat.zero_le _, Nat.zero_le _⟩ (fun H locs hP hD hS => ?_)
  refine lv_istore_n (lv' := [(1, .int x1.1), (0, .ref o)]) hx hb dX4_fault_5 rfl hl (by decide) rfl (fun ls hl => ?_)
  refine lv_aload_n hx hb dX4_fault_6 rfl (lv_at hl 1 rfl) ?_
  refine va_get (D := D) (v := .int x1.2.2.2.2.2.2.2.2.2.2) (C := RX4) (T := TX4) (N := 10) hx hb hts iw_X4 hown hK hP 0 rfl rfl 9 (by decide) (hts _ mw_595) (fun _ h9 => h9) rfl dX4_fault_7 ?_
  refine lv_if_eq (tgt := 20) hx hb dX4_fault_10 (by decide) (fun c3 => ?_) (fun c3 => ?_)
  · have h := xt c3 h
    refine lv_bipush (v := (-6)) hx hb dX4_fault_20 (by decide) ?_
    cases h
    exact x_retM C0 rfl hP hD hS dX4_fault_22
  · have h := xf c3 h
    refine lv_aload_n hx hb dX4_fault_13 rfl (lv_at hl 1 rfl) ?_
    refine va_get (D := D) (v := .int x1.2.2.2.2.2.2.2.2.2.1) (C := RX4) (T := TX4) (N := 10) hx hb hts iw_X4 hown hK hP 0 rfl rfl 8 (by decide) (hts _ mw_594) (fun _ h9 => h9) rfl dX4_fault_14 ?_
    refine lv_goto (tgt := 22) hx hb dX4_fault_17 (by decide) ?_
    cases h
    exact x_retM C0 rfl hP hD hS dX4_fault_22

/-! QuarrelWaysModel.carryOut ()I -/
def f_X4_carryOut (t : MM) : Option (Int32 × MM) := ((f_X4_go t (0 : Int32)).bind fun x1 => (if x1.2.2.2.2.2.2.2.2.2.2 = 0 then ((f_X4_putAside x1.2).bind fun x4 => ((f_X4_go x4 (1 : Int32)).bind fun x6 => ((f_X4_end (M7 x6.2 (0 : Int32)) x6.1).bind fun x8 => some (x8.1, x8.2)))) else some ((-3 : Int32), x1.2)))
abbrev rm_X4_carryOut : Room := { frames := 10, cells := 0, slots := 0, locals := 240 }
theorem hd_X4_carryOut : yX4_carryOut.cls = RX4 ∧ yX4_carryOut.cls ≠ "java/lang/invoke/MethodHandle" ∧ yX4_carryOut.cls ≠ "java/lang/invoke/VarHandle" ∧ (parseMethodDescriptor yX4_carryOut.desc).map (fun d => d.parameters.length) = some 0 := by decide +kernel
set_option maxHeartbeats 4000000 in
set_option maxRecDepth 100000 in
theorem c_X4_carryOut (l : Launch) (D : va_G) (cI cZ cT : ClassId) (sz : Nat) (o : Nat) (b : Nat → Nat) (t : MM) (r : Int32 × MM) (h : f_X4_carryOut t = some r) : Met l yX4_carryOut (wq yX4_carryOut cX4_carryOut 3 (some .int)) rm_X4_carryOut (q_M D (q_tys cI cZ cT) sz (wM cI cZ o b t) q_T [.ref o]) (va_Qi (fun r' _ => r' = r.1) (q_B D (wM cI cZ o b t) sz (wM cI cZ o b r.2)) (va_A (wM cI cZ o b t) sz)) 0 0 (va_A (wM cI cZ o b t) sz) := by
  refine q_MI (cc := cX4_carryOut) (maxL := 3) (ret := (some .int)) (E := fun sz => q_T) (Qc := fun sz => (va_Qi (fun r' _ => r' = r.1) (q_B D (wM cI cZ o b t) sz (wM cI cZ o b r.2)) (va_A (wM cI cZ o b t) sz))) (free := fun sz => va_A (wM cI cZ o b t) sz) (plainFor_of_name (by decide)) (Nat.le_of_ble_eq_true rfl) (fun p e s m below meth c C0 hname hP hK hD hE ls hl => ?_)
  have hA : ∀ q, s.heap.size ≤ q → (va_A (wM cI cZ o b t) s.heap.size) q := fun _ => Or.inr
  have hS : va_S (va_A (wM cI cZ o b t) s.heap.size) s.heap s.heap [] := va_S.rf
  have hl : lv_has ls 3 [(0, .ref o)] := hl
  obtain ⟨hx, hb, hr, hml, hown, hts, hlocks⟩ := id C0
  have hF : CallFix p m c cX4_carryOut 3 s _ BW RX4 := ⟨hx, hb, hml, hown, hts⟩
  rw [f_X4_carryOut] at h
  refine lv_aload_n hx hb dX4_carryOut_0 rfl (lv_at hl 0 rfl) ?_
  refine lv_iconst (v := 0) hx hb dX4_carryOut_1 (by decide) ?_
  obtain ⟨x1, h2, h⟩ := bE h
  refine x_MV (As := [.int (0 : Int32)]) (rest := []) (wr := []) (W1 := wM cI cZ o b x1.2) hF (c_X4_go l D cI cZ cT _ o b t (0 : Int32) x1 h2) (cwV 1 hts (gqV mw_612 mw_613 mw_614 mw_428 mw_611) rfl rfl rfl hd_X4_go ⟨Nat.le_of_ble_eq_true rfl, Nat.le_of_ble_eq_true rfl⟩) hK hP hD hS hA q_T_bl (fun _ _ _ => trivial) [0, 1, 2, 3, 4, 5, 6] [] [0, 1, 2, 3, 4, 5, 6] rfl rfl ⟨rfl, rfl, rfl, rfl⟩ rfl rfl rfl rfl hl.1 rfl (Nat.le_of_ble_eq_true rfl) dX4_carryOut_2 ⟨Nat.zero_le _, Nat.zero_le _⟩ (fun H locs hP hD hS => ?_)
  refine lv_istore_n (lv' := [(1, .int x1.1), (0, .ref o)]) hx hb dX4_carryOut_5 rfl hl (by decide) rfl (fun ls hl => ?_)
  refine lv_aload_n hx hb dX4_carryOut_6 rfl (lv_at hl 1 rfl) ?_
  refine va_get (D := D) (v := .int x1.2.2.2.2.2.2.2.2.2.2) (C := RX4) (T := TX4) (N := 10) hx hb hts iw_X4 hown hK hP 0 rfl rfl 9 (by decide) (hts _ mw_595) (fun _ h9 => h9) rfl dX4_carryOut_7 ?_
  refine lv_if_eq (tgt := 16) hx hb dX4_carryOut_10 (by decide) (fun c3 => ?_) (fun c3 => ?_)
  · have h := xt c3 h
    refine lv_aload_n hx hb dX4_carryOut_16 rfl (lv_at hl 1 rfl) ?_
    obtain ⟨x4, h5, h⟩ := bE h
    refine x_VV (As := []) (rest := []) (wr := []) (W1 := wM cI cZ o b x4) hF (c_X4_putAside l D cI cZ cT _ o b x1.2  x4 h5) (cwV 0 hts (gqV mw_516 mw_517 mw_518 mw_428 mw_422) rfl rfl rfl hd_X4_putAside ⟨Nat.le_of_ble_eq_true rfl, Nat.le_of_ble_eq_true rfl⟩) hK hP hD hS hA q_T_bl (fun _ _ _ => trivial) [0, 1, 2, 3, 4, 5, 6] [] [0, 1, 2, 3, 4, 5, 6] rfl rfl ⟨rfl, rfl, rfl, rfl⟩ rfl rfl rfl rfl hl.1 rfl (Nat.le_of_ble_eq_true rfl) dX4_carryOut_17 ⟨Nat.zero_le _, Nat.zero_le _⟩ (fun H locs hP hD hS => ?_)
    refine lv_aload_n hx hb dX4_carryOut_20 rfl (lv_at hl 1 rfl) ?_
    refine lv_iconst (v := 1) hx hb dX4_carryOut_21 (by decide) ?_
    obtain ⟨x6, h7, h⟩ := bE h
    refine x_MV (As := [.int (1 : Int32)]) (rest := []) (wr := []) (W1 := wM cI cZ o b x6.2) hF (c_X4_go l D cI cZ cT _ o b x4 (1 : Int32) x6 h7) (cwV 1 hts (gqV mw_612 mw_613 mw_614 mw_428 mw_611) rfl rfl rfl hd_X4_go ⟨Nat.le_of_ble_eq_true rfl, Nat.le_of_ble_eq_true rfl⟩) hK hP hD hS hA q_T_bl (fun _ _ _ => trivial) [0, 1, 2, 3, 4, 5, 6] [] [0, 1, 2, 3, 4, 5, 6] rfl rfl ⟨rfl, rfl, rfl, rfl⟩ rfl rfl rfl rfl hl.1 rfl (Nat.le_of_ble_eq_true rfl) dX4_carryOut_22 ⟨Nat.zero_le _, Nat.zero_le _⟩ (fun H locs hP hD hS => ?_)
    refine lv_istore_n (lv' := [(2, .int x6.1), (1, .int x1.1), (0, .ref o)]) hx hb dX4_carryOut_25 rfl hl (by decide) rfl (fun ls hl => ?_)
    refine lv_aload_n hx hb dX4_carryOut_26 rfl (lv_at hl 2 rfl) ?_
    refine lv_iconst (v := 0) hx hb dX4_carryOut_27 (by decide) ?_
    refine va_put (D := D) (v := .int (0 : Int32)) (ty := .int) (C := RX4) (T := TX4) (N := 10) hx hb hts iw_X4 tyX4 tyX4_ok nmX4 hown hK hP hD hS 0 rfl rfl 7 (by decide) (hts _ mw_576) (fun _ h9 => h9) rfl (by decide +kernel) rfl rfl (Nat.le_of_ble_eq_true rfl) dX4_carryOut_28 (fun H locs hP hD hS => ?_)
    have hP : va_P D vwCl (wM cI cZ o b (M7 x6.2 (0 : Int32))) H := hP
    have hD : va_D (va_A (wM cI cZ o b t) s.heap.size) (wM cI cZ o b (M7 x6.2 (0 : Int32))) := hD
    refine lv_aload_n hx hb dX4_carryOut_31 rfl (lv_at hl 2 rfl) ?_
    refine lv_iload_n hx hb dX4_carryOut_32 rfl (lv_at hl 0 rfl) ?_
    obtain ⟨x8, h9, h⟩ := bE h
    refine x_MV (As := [.int x6.1]) (rest := []) (wr := []) (W1 := wM cI cZ o b x8.2) hF (c_X4_end l D cI cZ cT _ o b (M7 x6.2 (0 : Int32)) x6.1 x8 h9) (cwV 1 hts (gqV mw_519 mw_520 mw_521 mw_428 mw_423) rfl rfl rfl hd_X4_end ⟨Nat.le_of_ble_eq_true rfl, Nat.le_of_ble_eq_true rfl⟩) hK hP hD hS hA q_T_bl (fun _ _ _ => trivial) [0, 1, 2, 3, 4, 5, 6] [] [0, 1, 2, 3, 4, 5, 6] rfl rfl ⟨rfl, rfl, rfl, rfl⟩ rfl rfl rfl rfl hl.1 rfl (Nat.le_of_ble_eq_true rfl) dX4_carryOut_33 ⟨Nat.zero_le _, Nat.zero_le _⟩ (fun H locs hP hD hS => ?_)
    cases h
    exact x_retM C0 rfl hP hD hS dX4_carryOut_36
  · have h := xf c3 h
    refine lv_bipush (v := (-3)) hx hb dX4_carryOut_13 (by decide) ?_
    cases h
    exact x_retM C0 rfl hP hD hS dX4_carryOut_15

end G_ME

section G_X2
variable {p : Program} {l : Launch} {e : Env} {s : State} {m : MethodId} {args : Array Value} {below : List Frame} {meth : Method} {c : Code} {D : va_G} {cI cZ cT : ClassId}

/-! QuarrelWays.count (I)I -/
def f_X3_count (t : TT) (hh : HH) (pp : PP) (a1 : Int32) : Option (Int32) := (if a1 = (13 : Int32) then some pp.2.1 else (if a1 = (14 : Int32) then some hh.2.1 else ((f_X2_tellNumber t a1).bind fun x3 => some x3)))
abbrev rm_X3_count : Room := { frames := 6, cells := 0, slots := 0, locals := 137 }
theorem hd_X3_count : yX3_count.cls = RX3 ∧ yX3_count.cls ≠ "java/lang/invoke/MethodHandle" ∧ yX3_count.cls ≠ "java/lang/invoke/VarHandle" ∧ (parseMethodDescriptor yX3_count.desc).map (fun d => d.parameters.length) = some 1 := by decide +kernel
set_option maxHeartbeats 4000000 in
set_option maxRecDepth 100000 in
theorem c_X3_count (l : Launch) (D : va_G) (cI cZ cT : ClassId) (G : q_G) (A : Nat → Prop) (w sl : Nat) (o a : Nat) (t : TT) (hs hst : Nat) (ta ca : Nat → Nat) (hh : HH) (pd sg nm : Nat) (pp : PP) (a1 : Int32) (r : Int32) (h : f_X3_count t hh pp a1 = some r) : Met l yX3_count (wq yX3_count cX3_count 2 (some .int)) rm_X3_count (q_R D (q_tys cI cZ cT) ((wX w o hs pd sl) ++ (wT cI o a t) ++ (wH cI cT hs hst ta ca hh) ++ (wPd cI pd sg nm pp)) (q_E G A) [.ref w, .int a1]) (vp_Si (fun r' => r' = r)) 0 0 (fun _ => False) := by
  refine q_RI (cc := cX3_count) (maxL := 2) (ret := (some .int)) (plainFor_of_name (by decide)) (Nat.le_of_ble_eq_true rfl) (fun p e s m below meth c C0 hP hK hE ls hl => ?_)
  have hE : q_E G A s := hE
  have hS : va_S A s.heap s.heap [] := va_S.rf
  have hl : lv_has ls 2 [(0, .ref w), (1, .int a1)] := hl
  obtain ⟨hx, hb, hr, hml, hown, hts, hlocks⟩ := id C0
  have hF : CallFix p m c cX3_count 2 s _ BW RX3 := ⟨hx, hb, hml, hown, hts⟩
  rw [f_X3_count] at h
  refine lv_iload_n hx hb dX3_count_0 rfl (lv_at hl 1 rfl) ?_
  refine lv_bipush (v := 13) hx hb dX3_count_1 (by decide) ?_
  refine lv_icmp_ne (tgt := 14) hx hb dX3_count_3 (by decide) (fun c1 => ?_) (fun c1 => ?_)
  · have h := xf c1 h
    refine lv_iload_n hx hb dX3_count_14 rfl (lv_at hl 1 rfl) ?_
    refine lv_bipush (v := 14) hx hb dX3_count_15 (by decide) ?_
    refine lv_icmp_ne (tgt := 28) hx hb dX3_count_17 (by decide) (fun c2 => ?_) (fun c2 => ?_)
    · have h := xf c2 h
      refine lv_aload_n hx hb dX3_count_28 rfl (lv_at hl 0 rfl) ?_
      refine va_get (D := D) (v := .ref o) (C := RX3) (T := TX3) (N := 4) hx hb hts iw_X3 hown hK hP 0 rfl rfl 0 (by decide) (hts _ mw_215) (fun _ h9 => h9) rfl dX3_count_29 ?_
      refine lv_iload_n hx hb dX3_count_32 rfl (lv_at hl 1 rfl) ?_
      obtain ⟨x3, h4, h⟩ := bE h
      refine x_RVN (As := [.int a1]) (rest := []) hF (c_X2_tellNumber l D cI cZ cT o a t a1 x3 h4) ⟨(va_cnB 1 hts (gq mw_212) rfl rfl rfl (nM_of hE 23 rfl) (hts _ mw_15) hd_X2_tellNumber.2 ⟨Nat.le_of_ble_eq_true rfl, Nat.le_of_ble_eq_true rfl⟩), hts _ mw_281, hts _ mw_282⟩ hK hP q_T_bl (fun _ _ _ => (trivial : True)) [1, 2] rfl rfl rfl rfl hl.1 rfl (Nat.le_of_ble_eq_true rfl) dX3_count_33 ⟨Nat.zero_le _, Nat.zero_le _⟩ ?_
      cases h
      exact x_retR C0 rfl dX3_count_36
    · have h := xt c2 h
      refine lv_aload_n hx hb dX3_count_20 rfl (lv_at hl 0 rfl) ?_
      refine va_get (D := D) (v := .ref hs) (C := RX3) (T := TX3) (N := 4) hx hb hts iw_X3 hown hK hP 0 rfl rfl 1 (by decide) (hts _ mw_218) (fun _ h9 => h9) rfl dX3_count_21 ?_
      refine va_getN (D := D) (v := .int hh.2.1) (C := RX0) (T := TX0) (N := 3) hx hb hts iw_X0 hown hK hP 3 rfl rfl 2 (by decide) (nF_of hE 1 rfl) (fun _ h9 => h9) rfl dX3_count_24 ?_
      cases h
      exact x_retR C0 rfl dX3_count_27
  · have h := xt c1 h
    refine lv_aload_n hx hb dX3_count_6 rfl (lv_at hl 0 rfl) ?_
    refine va_get (D := D) (v := .ref pd) (C := RX3) (T := TX3) (N := 4) hx hb hts iw_X3 hown hK hP 0 rfl rfl 2 (by decide) (hts _ mw_222) (fun _ h9 => h9) rfl dX3_count_7 ?_
    refine va_getN (D := D) (v := .int pp.2.1) (C := RX1) (T := TX1) (N := 6) hx hb hts iw_X1 hown hK hP 19 rfl rfl 1 (by decide) (nF_of hE 0 rfl) (fun _ h9 => h9) rfl dX3_count_10 ?_
    cases h
    exact x_retR C0 rfl dX3_count_13

/-! QuarrelWays.why (I)I -/
def f_X3_why (t : TT) (hh : HH) (pp : PP) (a1 : Int32) : Option (Int32) := ((f_X2_hasQuarrel t a1).bind fun x1 => (if x1 = 0 then some (-1 : Int32) else ((f_X2_waysOf t a1).bind fun x4 => ((f_X2_whyNotDue t a1 x4).bind fun x6 => some x6))))
abbrev rm_X3_why : Room := { frames := 4, cells := 0, slots := 0, locals := 94 }
theorem hd_X3_why : yX3_why.cls = RX3 ∧ yX3_why.cls ≠ "java/lang/invoke/MethodHandle" ∧ yX3_why.cls ≠ "java/lang/invoke/VarHandle" ∧ (parseMethodDescriptor yX3_why.desc).map (fun d => d.parameters.length) = some 1 := by decide +kernel
set_option maxHeartbeats 4000000 in
set_option maxRecDepth 100000 in
theorem c_X3_why (l : Launch) (D : va_G) (cI cZ cT : ClassId) (G : q_G) (A : Nat → Prop) (w sl : Nat) (o a : Nat) (t : TT) (hs hst : Nat) (ta ca : Nat → Nat) (hh : HH) (pd sg nm : Nat) (pp : PP) (a1 : Int32) (r : Int32) (h : f_X3_why t hh pp a1 = some r) : Met l yX3_why (wq yX3_why cX3_why 2 (some .int)) rm_X3_why (q_R D (q_tys cI cZ cT) ((wX w o hs pd sl) ++ (wT cI o a t) ++ (wH cI cT hs hst ta ca hh) ++ (wPd cI pd sg nm pp)) (q_E G A) [.ref w, .int a1]) (vp_Si (fun r' => r' = r)) 0 0 (fun _ => False) := by
  refine q_RI (cc := cX3_why) (maxL := 2) (ret := (some .int)) (plainFor_of_name (by decide)) (Nat.le_of_ble_eq_true rfl) (fun p e s m below meth c C0 hP hK hE ls hl => ?_)
  have hE : q_E G A s := hE
  have hS : va_S A s.heap s.heap [] := va_S.rf
  have hl : lv_has ls 2 [(0, .ref w), (1, .int a1)] := hl
  obtain ⟨hx, hb, hr, hml, hown, hts, hlocks⟩ := id C0
  have hF : CallFix p m c cX3_why 2 s _ BW RX3 := ⟨hx, hb, hml, hown, hts⟩
  rw [f_X3_why] at h
  refine lv_aload_n hx hb dX3_why_0 rfl (lv_at hl 0 rfl) ?_
  refine va_get (D := D) (v := .ref o) (C := RX3) (T := TX3) (N := 4) hx hb hts iw_X3 hown hK hP 0 rfl rfl 0 (by decide) (hts _ mw_215) (fun _ h9 => h9) rfl dX3_why_1 ?_
  refine lv_iload_n hx hb dX3_why_4 rfl (lv_at hl 1 rfl) ?_
  obtain ⟨x1, h2, h⟩ := bE h
  refine x_RVN (As := [.int a1]) (rest := []) hF (c_X2_hasQuarrel l D cI cZ cT o a t a1 x1 h2) ⟨(va_cnB 1 hts (gq mw_63) rfl rfl rfl (nM_of hE 24 rfl) (hts _ mw_15) hd_X2_hasQuarrel.2 ⟨Nat.le_of_ble_eq_true rfl, Nat.le_of_ble_eq_true rfl⟩), hts _ mw_135, hts _ mw_136⟩ hK hP q_T_bl (fun _ _ _ => (trivial : True)) [1, 2] rfl rfl rfl rfl hl.1 rfl (Nat.le_of_ble_eq_true rfl) dX3_why_5 ⟨Nat.zero_le _, Nat.zero_le _⟩ ?_
  refine lv_if_eq (tgt := 30) hx hb dX3_why_8 (by decide) (fun c3 => ?_) (fun c3 => ?_)
  · have h := xt c3 h
    refine lv_iconst (v := (-1)) hx hb dX3_why_30 (by decide) ?_
    cases h
    exact x_retR C0 rfl dX3_why_31
  · have h := xf c3 h
    refine lv_aload_n hx hb dX3_why_11 rfl (lv_at hl 0 rfl) ?_
    refine va_get (D := D) (v := .ref o) (C := RX3) (T := TX3) (N := 4) hx hb hts iw_X3 hown hK hP 0 rfl rfl 0 (by decide) (hts _ mw_215) (fun _ h9 => h9) rfl dX3_why_12 ?_
    refine lv_iload_n hx hb dX3_why_15 rfl (lv_at hl 1 rfl) ?_
    refine lv_aload_n hx hb dX3_why_16 rfl (lv_at hl 0 rfl) ?_
    refine va_get (D := D) (v := .ref o) (C := RX3) (T := TX3) (N := 4) hx hb hts iw_X3 hown hK hP 0 rfl rfl 0 (by decide) (hts _ mw_215) (fun _ h9 => h9) rfl dX3_why_17 ?_
    refine lv_iload_n hx hb dX3_why_20 rfl (lv_at hl 1 rfl) ?_
    obtain ⟨x4, h5, h⟩ := bE h
    refine x_RVN (As := [.int a1]) (rest := [.int a1, .ref o]) hF (c_X2_waysOf l D cI cZ cT o a t a1 x4 h5) ⟨(va_cnB 1 hts (gq mw_131) rfl rfl rfl (nM_of hE 25 rfl) (hts _ mw_15) hd_X2_waysOf.2 ⟨Nat.le_of_ble_eq_true rfl, Nat.le_of_ble_eq_true rfl⟩), hts _ mw_138, hts _ mw_139⟩ hK hP q_T_bl (fun _ _ _ => (trivial : True)) [1, 2] rfl rfl rfl rfl hl.1 rfl (Nat.le_of_ble_eq_true rfl) dX3_why_21 ⟨Nat.zero_le _, Nat.zero_le _⟩ ?_
    obtain ⟨x6, h7, h⟩ := bE h
    refine x_RVN (As := [.int a1, .int x4]) (rest := []) hF (c_X2_whyNotDue l D cI cZ cT o a t a1 x4 x6 h7) ⟨(va_cnB 2 hts (gq mw_147) rfl rfl rfl (nM_of hE 26 rfl) (hts _ mw_15) hd_X2_whyNotDue.2 ⟨Nat.le_of_ble_eq_true rfl, Nat.le_of_ble_eq_true rfl⟩), hts _ mw_155, hts _ mw_156⟩ hK hP q_T_bl (fun _ _ _ => (trivial : True)) [1, 2] rfl rfl rfl rfl hl.1 rfl (Nat.le_of_ble_eq_true rfl) dX3_why_24 ⟨Nat.zero_le _, Nat.zero_le _⟩ ?_
    refine lv_goto (tgt := 31) hx hb dX3_why_27 (by decide) ?_
    cases h
    exact x_retR C0 rfl dX3_why_31

/-! QuarrelWays.firstWay (I)I -/
def f_X3_firstWay (t : TT) (hh : HH) (pp : PP) (a1 : Int32) : Option (Int32) := ((f_X2_hasQuarrel t a1).bind fun x1 => (if x1 = 0 then some (-1 : Int32) else ((f_X2_waysOf t a1).bind fun x4 => ((f_X2_firstOf x4).bind fun x6 => some x6))))
abbrev rm_X3_firstWay : Room := { frames := 4, cells := 0, slots := 0, locals := 94 }
theorem hd_X3_firstWay : yX3_firstWay.cls = RX3 ∧ yX3_firstWay.cls ≠ "java/lang/invoke/MethodHandle" ∧ yX3_firstWay.cls ≠ "java/lang/invoke/VarHandle" ∧ (parseMethodDescriptor yX3_firstWay.desc).map (fun d => d.parameters.length) = some 1 := by decide +kernel
set_option maxHeartbeats 4000000 in
set_option maxRecDepth 100000 in
theorem c_X3_firstWay (l : Launch) (D : va_G) (cI cZ cT : ClassId) (G : q_G) (A : Nat → Prop) (w sl : Nat) (o a : Nat) (t : TT) (hs hst : Nat) (ta ca : Nat → Nat) (hh : HH) (pd sg nm : Nat) (pp : PP) (a1 : Int32) (r : Int32) (h : f_X3_firstWay t hh pp a1 = some r) : Met l yX3_firstWay (wq yX3_firstWay cX3_firstWay 2 (some .int)) rm_X3_firstWay (q_R D (q_tys cI cZ cT) ((wX w o hs pd sl) ++ (wT cI o a t) ++ (wH cI cT hs hst ta ca hh) ++ (wPd cI pd sg nm pp)) (q_E G A) [.ref w, .int a1]) (vp_Si (fun r' => r' = r)) 0 0 (fun _ => False) := by
  refine q_RI (cc := cX3_firstWay) (maxL := 2) (ret := (some .int)) (plainFor_of_name (by decide)) (Nat.le_of_ble_eq_true rfl) (fun p e s m below meth c C0 hP hK hE ls hl => ?_)
  have hE : q_E G A s := hE
  have hS : va_S A s.heap s.heap [] := va_S.rf
  have hl : lv_has ls 2 [(0, .ref w), (1, .int a1)] := hl
  obtain ⟨hx, hb, hr, hml, hown, hts, hlocks⟩ := id C0
  have hF : CallFix p m c cX3_firstWay 2 s _ BW RX3 := ⟨hx, hb, hml, hown, hts⟩
  rw [f_X3_firstWay] at h
  refine lv_aload_n hx hb dX3_firstWay_0 rfl (lv_at hl 0 rfl) ?_
  refine va_get (D := D) (v := .ref o) (C := RX3) (T := TX3) (N := 4) hx hb hts iw_X3 hown hK hP 0 rfl rfl 0 (by decide) (hts _ mw_215) (fun _ h9 => h9) rfl dX3_firstWay_1 ?_
  refine lv_iload_n hx hb dX3_firstWay_4 rfl (lv_at hl 1 rfl) ?_
  obtain ⟨x1, h2, h⟩ := bE h
  refine x_RVN (As := [.int a1]) (rest := []) hF (c_X2_hasQuarrel l D cI cZ cT o a t a1 x1 h2) ⟨(va_cnB 1 hts (gq mw_63) rfl rfl rfl (nM_of hE 24 rfl) (hts _ mw_15) hd_X2_hasQuarrel.2 ⟨Nat.le_of_ble_eq_true rfl, Nat.le_of_ble_eq_true rfl⟩), hts _ mw_135, hts _ mw_136⟩ hK hP q_T_bl (fun _ _ _ => (trivial : True)) [1, 2] rfl rfl rfl rfl hl.1 rfl (Nat.le_of_ble_eq_true rfl) dX3_firstWay_5 ⟨Nat.zero_le _, Nat.zero_le _⟩ ?_
  refine lv_if_eq (tgt := 25) hx hb dX3_firstWay_8 (by decide) (fun c3 => ?_) (fun c3 => ?_)
  · have h := xt c3 h
    refine lv_iconst (v := (-1)) hx hb dX3_firstWay_25 (by decide) ?_
    cases h
    exact x_retR C0 rfl dX3_firstWay_26
  · have h := xf c3 h
    refine lv_aload_n hx hb dX3_firstWay_11 rfl (lv_at hl 0 rfl) ?_
    refine va_get (D := D) (v := .ref o) (C := RX3) (T := TX3) (N := 4) hx hb hts iw_X3 hown hK hP 0 rfl rfl 0 (by decide) (hts _ mw_215) (fun _ h9 => h9) rfl dX3_firstWay_12 ?_
    refine lv_iload_n hx hb dX3_firstWay_15 rfl (lv_at hl 1 rfl) ?_
    obtain ⟨x4, h5, h⟩ := bE h
    refine x_RVN (As := [.int a1]) (rest := []) hF (c_X2_waysOf l D cI cZ cT o a t a1 x4 h5) ⟨(va_cnB 1 hts (gq mw_131) rfl rfl rfl (nM_of hE 25 rfl) (hts _ mw_15) hd_X2_waysOf.2 ⟨Nat.le_of_ble_eq_true rfl, Nat.le_of_ble_eq_true rfl⟩), hts _ mw_138, hts _ mw_139⟩ hK hP q_T_bl (fun _ _ _ => (trivial : True)) [1, 2] rfl rfl rfl rfl hl.1 rfl (Nat.le_of_ble_eq_true rfl) dX3_firstWay_16 ⟨Nat.zero_le _, Nat.zero_le _⟩ ?_
    obtain ⟨x6, h7, h⟩ := bE h
    refine x_RSN (As := [.int x4]) (rest := []) hF (c_X2_firstOf l D cI cZ cT  x4 x6 h7) ⟨(va_cnB 1 hts (gq mw_166) rfl rfl rfl (nM_of hE 27 rfl) (hts _ mw_15) hd_X2_firstOf.2 ⟨Nat.le_of_ble_eq_true rfl, Nat.le_of_ble_eq_true rfl⟩), hts _ mw_285, trivial⟩ hK hP q_T_bl (fun _ _ _ => (trivial : True)) [] rfl rfl hl.1 rfl (Nat.le_of_ble_eq_true rfl) dX3_firstWay_19 ⟨Nat.zero_le _, Nat.zero_le _⟩ ?_
    refine lv_goto (tgt := 26) hx hb dX3_firstWay_22 (by decide) ?_
    cases h
    exact x_retR C0 rfl dX3_firstWay_26

/-! QuarrelWays.opensIn (I)I -/
def f_X3_opensIn (t : TT) (hh : HH) (pp : PP) (a1 : Int32) : Option (Int32) := ((f_X2_hasQuarrel t a1).bind fun x1 => (if x1 = 0 then some (-1 : Int32) else ((f_X2_isOpen t a1).bind fun x4 => (if x4 = 0 then some (-5 : Int32) else ((f_X2_hoursUntilWay t a1).bind fun x7 => some x7)))))
abbrev rm_X3_opensIn : Room := { frames := 5, cells := 0, slots := 0, locals := 115 }
theorem hd_X3_opensIn : yX3_opensIn.cls = RX3 ∧ yX3_opensIn.cls ≠ "java/lang/invoke/MethodHandle" ∧ yX3_opensIn.cls ≠ "java/lang/invoke/VarHandle" ∧ (parseMethodDescriptor yX3_opensIn.desc).map (fun d => d.parameters.length) = some 1 := by decide +kernel
set_option maxHeartbeats 4000000 in
set_option maxRecDepth 100000 in
theorem c_X3_opensIn (l : Launch) (D : va_G) (cI cZ cT : ClassId) (G : q_G) (A : Nat → Prop) (w sl : Nat) (o a : Nat) (t : TT) (hs hst : Nat) (ta ca : Nat → Nat) (hh : HH) (pd sg nm : Nat) (pp : PP) (a1 : Int32) (r : Int32) (h : f_X3_opensIn t hh pp a1 = some r) : Met l yX3_opensIn (wq yX3_opensIn cX3_opensIn 2 (some .int)) rm_X3_opensIn (q_R D (q_tys cI cZ cT) ((wX w o hs pd sl) ++ (wT cI o a t) ++ (wH cI cT hs hst ta ca hh) ++ (wPd cI pd sg nm pp)) (q_E G A) [.ref w, .int a1]) (vp_Si (fun r' => r' = r)) 0 0 (fun _ => False) := by
  refine q_RI (cc := cX3_opensIn) (maxL := 2) (ret := (some .int)) (plainFor_of_name (by decide)) (Nat.le_of_ble_eq_true rfl) (fun p e s m below meth c C0 hP hK hE ls hl => ?_)
  have hE : q_E G A s := hE
  have hS : va_S A s.heap s.heap [] := va_S.rf
  have hl : lv_has ls 2 [(0, .ref w), (1, .int a1)] := hl
  obtain ⟨hx, hb, hr, hml, hown, hts, hlocks⟩ := id C0
  have hF : CallFix p m c cX3_opensIn 2 s _ BW RX3 := ⟨hx, hb, hml, hown, hts⟩
  rw [f_X3_opensIn] at h
  refine lv_aload_n hx hb dX3_opensIn_0 rfl (lv_at hl 0 rfl) ?_
  refine va_get (D := D) (v := .ref o) (C := RX3) (T := TX3) (N := 4) hx hb hts iw_X3 hown hK hP 0 rfl rfl 0 (by decide) (hts _ mw_215) (fun _ h9 => h9) rfl dX3_opensIn_1 ?_
  refine lv_iload_n hx hb dX3_opensIn_4 rfl (lv_at hl 1 rfl) ?_
  obtain ⟨x1, h2, h⟩ := bE h
  refine x_RVN (As := [.int a1]) (rest := []) hF (c_X2_hasQuarrel l D cI cZ cT o a t a1 x1 h2) ⟨(va_cnB 1 hts (gq mw_63) rfl rfl rfl (nM_of hE 24 rfl) (hts _ mw_15) hd_X2_hasQuarrel.2 ⟨Nat.le_of_ble_eq_true rfl, Nat.le_of_ble_eq_true rfl⟩), hts _ mw_135, hts _ mw_136⟩ hK hP q_T_bl (fun _ _ _ => (trivial : True)) [1, 2] rfl rfl rfl rfl hl.1 rfl (Nat.le_of_ble_eq_true rfl) dX3_opensIn_5 ⟨Nat.zero_le _, Nat.zero_le _⟩ ?_
  refine lv_if_ne (tgt := 13) hx hb dX3_opensIn_8 (by decide) (fun c3 => ?_) (fun c3 => ?_)
  · have h := xf c3 h
    refine lv_aload_n hx hb dX3_opensIn_13 rfl (lv_at hl 0 rfl) ?_
    refine va_get (D := D) (v := .ref o) (C := RX3) (T := TX3) (N := 4) hx hb hts iw_X3 hown hK hP 0 rfl rfl 0 (by decide) (hts _ mw_215) (fun _ h9 => h9) rfl dX3_opensIn_14 ?_
    refine lv_iload_n hx hb dX3_opensIn_17 rfl (lv_at hl 1 rfl) ?_
    obtain ⟨x4, h5, h⟩ := bE h
    refine x_RVN (As := [.int a1]) (rest := []) hF (c_X2_isOpen l D cI cZ cT o a t a1 x4 h5) ⟨(va_cnB 1 hts (gq mw_64) rfl rfl rfl (nM_of hE 28 rfl) (hts _ mw_15) hd_X2_isOpen.2 ⟨Nat.le_of_ble_eq_true rfl, Nat.le_of_ble_eq_true rfl⟩), hts _ mw_93, hts _ mw_94⟩ hK hP q_T_bl (fun _ _ _ => (trivial : True)) [1, 2] rfl rfl rfl rfl hl.1 rfl (Nat.le_of_ble_eq_true rfl) dX3_opensIn_18 ⟨Nat.zero_le _, Nat.zero_le _⟩ ?_
    refine lv_if_eq (tgt := 35) hx hb dX3_opensIn_21 (by decide) (fun c6 => ?_) (fun c6 => ?_)
    · have h := xt c6 h
      refine lv_bipush (v := (-5)) hx hb dX3_opensIn_35 (by decide) ?_
      cases h
      exact x_retR C0 rfl dX3_opensIn_37
    · have h := xf c6 h
      refine lv_aload_n hx hb dX3_opensIn_24 rfl (lv_at hl 0 rfl) ?_
      refine va_get (D := D) (v := .ref o) (C := RX3) (T := TX3) (N := 4) hx hb hts iw_X3 hown hK hP 0 rfl rfl 0 (by decide) (hts _ mw_215) (fun _ h9 => h9) rfl dX3_opensIn_25 ?_
      refine lv_iload_n hx hb dX3_opensIn_28 rfl (lv_at hl 1 rfl) ?_
      obtain ⟨x7, h8, h⟩ := bE h
      refine x_RVN (As := [.int a1]) (rest := []) hF (c_X2_hoursUntilWay l D cI cZ cT o a t a1 x7 h8) ⟨(va_cnB 1 hts (gq mw_177) rfl rfl rfl (nM_of hE 29 rfl) (hts _ mw_15) hd_X2_hoursUntilWay.2 ⟨Nat.le_of_ble_eq_true rfl, Nat.le_of_ble_eq_true rfl⟩), hts _ mw_287, hts _ mw_288⟩ hK hP q_T_bl (fun _ _ _ => (trivial : True)) [1, 2] rfl rfl rfl rfl hl.1 rfl (Nat.le_of_ble_eq_true rfl) dX3_opensIn_29 ⟨Nat.zero_le _, Nat.zero_le _⟩ ?_
      refine lv_goto (tgt := 37) hx hb dX3_opensIn_32 (by decide) ?_
      cases h
      exact x_retR C0 rfl dX3_opensIn_37
  · have h := xt c3 h
    refine lv_iconst (v := (-1)) hx hb dX3_opensIn_11 (by decide) ?_
    cases h
    exact x_retR C0 rfl dX3_opensIn_12

/-! QuarrelWays.dueIn (I)I -/
def f_X3_dueIn (t : TT) (hh : HH) (pp : PP) (a1 : Int32) : Option (Int32) := ((f_X2_hasQuarrel t a1).bind fun x1 => (if x1 = 0 then some (-1 : Int32) else ((f_X2_isOpen t a1).bind fun x4 => (if x4 = 0 then some (-5 : Int32) else ((f_X2_hoursUntilDuel t a1).bind fun x7 => some x7)))))
abbrev rm_X3_dueIn : Room := { frames := 5, cells := 0, slots := 0, locals := 118 }
theorem hd_X3_dueIn : yX3_dueIn.cls = RX3 ∧ yX3_dueIn.cls ≠ "java/lang/invoke/MethodHandle" ∧ yX3_dueIn.cls ≠ "java/lang/invoke/VarHandle" ∧ (parseMethodDescriptor yX3_dueIn.desc).map (fun d => d.parameters.length) = some 1 := by decide +kernel
set_option maxHeartbeats 4000000 in
set_option maxRecDepth 100000 in
theorem c_X3_dueIn (l : Launch) (D : va_G) (cI cZ cT : ClassId) (G : q_G) (A : Nat → Prop) (w sl : Nat) (o a : Nat) (t : TT) (hs hst : Nat) (ta ca : Nat → Nat) (hh : HH) (pd sg nm : Nat) (pp : PP) (a1 : Int32) (r : Int32) (h : f_X3_dueIn t hh pp a1 = some r) : Met l yX3_dueIn (wq yX3_dueIn cX3_dueIn 2 (some .int)) rm_X3_dueIn (q_R D (q_tys cI cZ cT) ((wX w o hs pd sl) ++ (wT cI o a t) ++ (wH cI cT hs hst ta ca hh) ++ (wPd cI pd sg nm pp)) (q_E G A) [.ref w, .int a1]) (vp_Si (fun r' => r' = r)) 0 0 (fun _ => False) := by
  refine q_RI (cc := cX3_dueIn) (maxL := 2) (ret := (some .int)) (plainFor_of_name (by decide)) (Nat.le_of_ble_eq_true rfl) (fun p e s m below meth c C0 hP hK hE ls hl => ?_)
  have hE : q_E G A s := hE
  have hS : va_S A s.heap s.heap [] := va_S.rf
  have hl : lv_has ls 2 [(0, .ref w), (1, .int a1)] := hl
  obtain ⟨hx, hb, hr, hml, hown, hts, hlocks⟩ := id C0
  have hF : CallFix p m c cX3_dueIn 2 s _ BW RX3 := ⟨hx, hb, hml, hown, hts⟩
  rw [f_X3_dueIn] at h
  refine lv_aload_n hx hb dX3_dueIn_0 rfl (lv_at hl 0 rfl) ?_
  refine va_get (D := D) (v := .ref o) (C := RX3) (T := TX3) (N := 4) hx hb hts iw_X3 hown hK hP 0 rfl rfl 0 (by decide) (hts _ mw_215) (fun _ h9 => h9) rfl dX3_dueIn_1 ?_
  refine lv_iload_n hx hb dX3_dueIn_4 rfl (lv_at hl 1 rfl) ?_
  obtain ⟨x1, h2, h⟩ := bE h
  refine x_RVN (As := [.int a1]) (rest := []) hF (c_X2_hasQuarrel l D cI cZ cT o a t a1 x1 h2) ⟨(va_cnB 1 hts (gq mw_63) rfl rfl rfl (nM_of hE 24 rfl) (hts _ mw_15) hd_X2_hasQuarrel.2 ⟨Nat.le_of_ble_eq_true rfl, Nat.le_of_ble_eq_true rfl⟩), hts _ mw_135, hts _ mw_136⟩ hK hP q_T_bl (fun _ _ _ => (trivial : True)) [1, 2] rfl rfl rfl rfl hl.1 rfl (Nat.le_of_ble_eq_true rfl) dX3_dueIn_5 ⟨Nat.zero_le _, Nat.zero_le _⟩ ?_
  refine lv_if_ne (tgt := 13) hx hb dX3_dueIn_8 (by decide) (fun c3 => ?_) (fun c3 => ?_)
  · have h := xf c3 h
    refine lv_aload_n hx hb dX3_dueIn_13 rfl (lv_at hl 0 rfl) ?_
    refine va_get (D := D) (v := .ref o) (C := RX3) (T := TX3) (N := 4) hx hb hts iw_X3 hown hK hP 0 rfl rfl 0 (by decide) (hts _ mw_215) (fun _ h9 => h9) rfl dX3_dueIn_14 ?_
    refine lv_iload_n hx hb dX3_dueIn_17 rfl (lv_at hl 1 rfl) ?_
    obtain ⟨x4, h5, h⟩ := bE h
    refine x_RVN (As := [.int a1]) (rest := []) hF (c_X2_isOpen l D cI cZ cT o a t a1 x4 h5) ⟨(va_cnB 1 hts (gq mw_64) rfl rfl rfl (nM_of hE 28 rfl) (hts _ mw_15) hd_X2_isOpen.2 ⟨Nat.le_of_ble_eq_true rfl, Nat.le_of_ble_eq_true rfl⟩), hts _ mw_93, hts _ mw_94⟩ hK hP q_T_bl (fun _ _ _ => (trivial : True)) [1, 2] rfl rfl rfl rfl hl.1 rfl (Nat.le_of_ble_eq_true rfl) dX3_dueIn_18 ⟨Nat.zero_le _, Nat.zero_le _⟩ ?_
    refine lv_if_eq (tgt := 35) hx hb dX3_dueIn_21 (by decide) (fun c6 => ?_) (fun c6 => ?_)
    · have h := xt c6 h
      refine lv_bipush (v := (-5)) hx hb dX3_dueIn_35 (by decide) ?_
      cases h
      exact x_retR C0 rfl dX3_dueIn_37
    · have h := xf c6 h
      refine lv_aload_n hx hb dX3_dueIn_24 rfl (lv_at hl 0 rfl) ?_
      refine va_get (D := D) (v := .ref o) (C := RX3) (T := TX3) (N := 4) hx hb hts iw_X3 hown hK hP 0 rfl rfl 0 (by decide) (hts _ mw_215) (fun _ h9 => h9) rfl dX3_dueIn_25 ?_
      refine lv_iload_n hx hb dX3_dueIn_28 rfl (lv_at hl 1 rfl) ?_
      obtain ⟨x7, h8, h⟩ := bE h
      refine x_RVN (As := [.int a1]) (rest := []) hF (c_X2_hoursUntilDuel l D cI cZ cT o a t a1 x7 h8) ⟨(va_cnB 1 hts (gq mw_178) rfl rfl rfl (nM_of hE 30 rfl) (hts _ mw_15) hd_X2_hoursUntilDuel.2 ⟨Nat.le_of_ble_eq_true rfl, Nat.le_of_ble_eq_true rfl⟩), hts _ mw_290, hts _ mw_291⟩ hK hP q_T_bl (fun _ _ _ => (trivial : True)) [1, 2] rfl rfl rfl rfl hl.1 rfl (Nat.le_of_ble_eq_true rfl) dX3_dueIn_29 ⟨Nat.zero_le _, Nat.zero_le _⟩ ?_
      refine lv_goto (tgt := 37) hx hb dX3_dueIn_32 (by decide) ?_
      cases h
      exact x_retR C0 rfl dX3_dueIn_37
  · have h := xt c3 h
    refine lv_iconst (v := (-1)) hx hb dX3_dueIn_11 (by decide) ?_
    cases h
    exact x_retR C0 rfl dX3_dueIn_12

/-! QuarrelWays.ifInsulted (III)I -/
def f_X3_ifInsulted (t : TT) (hh : HH) (pp : PP) (a1 : Int32) (a2 : Int32) (a3 : Int32) : Option (Int32) := ((f_X2_errorOfInsult t a1 a2 a3).bind fun x1 => (if x1 = 0 then ((f_X2_waysBetween t a1 a2 a3 (0 : Int32)).bind fun x4 => some x4) else some x1))
abbrev rm_X3_ifInsulted : Room := { frames := 3, cells := 0, slots := 0, locals := 73 }
theorem hd_X3_ifInsulted : yX3_ifInsulted.cls = RX3 ∧ yX3_ifInsulted.cls ≠ "java/lang/invoke/MethodHandle" ∧ yX3_ifInsulted.cls ≠ "java/lang/invoke/VarHandle" ∧ (parseMethodDescriptor yX3_ifInsulted.desc).map (fun d => d.parameters.length) = some 3 := by decide +kernel
set_option maxHeartbeats 4000000 in
set_option maxRecDepth 100000 in
theorem c_X3_ifInsulted (l : Launch) (D : va_G) (cI cZ cT : ClassId) (G : q_G) (A : Nat → Prop) (w sl : Nat) (o a : Nat) (t : TT) (hs hst : Nat) (ta ca : Nat → Nat) (hh : HH) (pd sg nm : Nat) (pp : PP) (a1 : Int32) (a2 : Int32) (a3 : Int32) (r : Int32) (h : f_X3_ifInsulted t hh pp a1 a2 a3 = some r) : Met l yX3_ifInsulted (wq yX3_ifInsulted cX3_ifInsulted 5 (some .int)) rm_X3_ifInsulted (q_R D (q_tys cI cZ cT) ((wX w o hs pd sl) ++ (wT cI o a t) ++ (wH cI cT hs hst ta ca hh) ++ (wPd cI pd sg nm pp)) (q_E G A) [.ref w, .int a1, .int a2, .int a3]) (vp_Si (fun r' => r' = r)) 0 0 (fun _ => False) := by
  refine q_RI (cc := cX3_ifInsulted) (maxL := 5) (ret := (some .int)) (plainFor_of_name (by decide)) (Nat.le_of_ble_eq_true rfl) (fun p e s m below meth c C0 hP hK hE ls hl => ?_)
  have hE : q_E G A s := hE
  have hS : va_S A s.heap s.heap [] := va_S.rf
  have hl : lv_has ls 5 [(0, .ref w), (1, .int a1), (2, .int a2), (3, .int a3)] := hl
  obtain ⟨hx, hb, hr, hml, hown, hts, hlocks⟩ := id C0
  have hF : CallFix p m c cX3_ifInsulted 5 s _ BW RX3 := ⟨hx, hb, hml, hown, hts⟩
  rw [f_X3_ifInsulted] at h
  refine lv_aload_n hx hb dX3_ifInsulted_0 rfl (lv_at hl 0 rfl) ?_
  refine va_get (D := D) (v := .ref o) (C := RX3) (T := TX3) (N := 4) hx hb hts iw_X3 hown hK hP 0 rfl rfl 0 (by decide) (hts _ mw_215) (fun _ h9 => h9) rfl dX3_ifInsulted_1 ?_
  refine lv_iload_n hx hb dX3_ifInsulted_4 rfl (lv_at hl 1 rfl) ?_
  refine lv_iload_n hx hb dX3_ifInsulted_5 rfl (lv_at hl 2 rfl) ?_
  refine lv_iload_n hx hb dX3_ifInsulted_6 rfl (lv_at hl 3 rfl) ?_
  obtain ⟨x1, h2, h⟩ := bE h
  refine x_RVN (As := [.int a1, .int a2, .int a3]) (rest := []) hF (c_X2_errorOfInsult l D cI cZ cT o a t a1 a2 a3 x1 h2) ⟨(va_cnB 3 hts (gq mw_88) rfl rfl rfl (nM_of hE 31 rfl) (hts _ mw_15) hd_X2_errorOfInsult.2 ⟨Nat.le_of_ble_eq_true rfl, Nat.le_of_ble_eq_true rfl⟩), hts _ mw_100, hts _ mw_101⟩ hK hP q_T_bl (fun _ _ _ => (trivial : True)) [1, 2] rfl rfl rfl rfl hl.1 rfl (Nat.le_of_ble_eq_true rfl) dX3_ifInsulted_7 ⟨Nat.zero_le _, Nat.zero_le _⟩ ?_
  refine lv_istore (lv' := [(4, .int x1), (0, .ref w), (1, .int a1), (2, .int a2), (3, .int a3)]) hx hb dX3_ifInsulted_10 hl (by decide) rfl (fun ls hl => ?_)
  refine lv_iload hx hb dX3_ifInsulted_12 (lv_at hl 0 rfl) ?_
  refine lv_if_eq (tgt := 22) hx hb dX3_ifInsulted_14 (by decide) (fun c3 => ?_) (fun c3 => ?_)
  · have h := xt c3 h
    refine lv_aload_n hx hb dX3_ifInsulted_22 rfl (lv_at hl 1 rfl) ?_
    refine va_get (D := D) (v := .ref o) (C := RX3) (T := TX3) (N := 4) hx hb hts iw_X3 hown hK hP 0 rfl rfl 0 (by decide) (hts _ mw_215) (fun _ h9 => h9) rfl dX3_ifInsulted_23 ?_
    refine lv_iload_n hx hb dX3_ifInsulted_26 rfl (lv_at hl 2 rfl) ?_
    refine lv_iload_n hx hb dX3_ifInsulted_27 rfl (lv_at hl 3 rfl) ?_
    refine lv_iload_n hx hb dX3_ifInsulted_28 rfl (lv_at hl 4 rfl) ?_
    refine lv_iconst (v := 0) hx hb dX3_ifInsulted_29 (by decide) ?_
    obtain ⟨x4, h5, h⟩ := bE h
    refine x_RVN (As := [.int a1, .int a2, .int a3, .int (0 : Int32)]) (rest := []) hF (c_X2_waysBetween l D cI cZ cT o a t a1 a2 a3 (0 : Int32) x4 h5) ⟨(va_cnB 4 hts (gq mw_124) rfl rfl rfl (nM_of hE 32 rfl) (hts _ mw_15) hd_X2_waysBetween.2 ⟨Nat.le_of_ble_eq_true rfl, Nat.le_of_ble_eq_true rfl⟩), hts _ mw_129, hts _ mw_130⟩ hK hP q_T_bl (fun _ _ _ => (trivial : True)) [1, 2] rfl rfl rfl rfl hl.1 rfl (Nat.le_of_ble_eq_true rfl) dX3_ifInsulted_30 ⟨Nat.zero_le _, Nat.zero_le _⟩ ?_
    cases h
    exact x_retR C0 rfl dX3_ifInsulted_33
  · have h := xf c3 h
    refine lv_iload hx hb dX3_ifInsulted_17 (lv_at hl 0 rfl) ?_
    refine lv_goto (tgt := 33) hx hb dX3_ifInsulted_19 (by decide) ?_
    cases h
    exact x_retR C0 rfl dX3_ifInsulted_33

/-! QuarrelWays.ifFought (I)I -/
def f_X3_ifFought (t : TT) (hh : HH) (pp : PP) (a1 : Int32) : Option (Int32) := ((f_X2_hasQuarrel t a1).bind fun x1 => (if x1 = 0 then some (-1 : Int32) else ((f_X2_winnerOf t a1).bind fun x4 => some x4)))
abbrev rm_X3_ifFought : Room := { frames := 3, cells := 0, slots := 0, locals := 67 }
theorem hd_X3_ifFought : yX3_ifFought.cls = RX3 ∧ yX3_ifFought.cls ≠ "java/lang/invoke/MethodHandle" ∧ yX3_ifFought.cls ≠ "java/lang/invoke/VarHandle" ∧ (parseMethodDescriptor yX3_ifFought.desc).map (fun d => d.parameters.length) = some 1 := by decide +kernel
set_option maxHeartbeats 4000000 in
set_option maxRecDepth 100000 in
theorem c_X3_ifFought (l : Launch) (D : va_G) (cI cZ cT : ClassId) (G : q_G) (A : Nat → Prop) (w sl : Nat) (o a : Nat) (t : TT) (hs hst : Nat) (ta ca : Nat → Nat) (hh : HH) (pd sg nm : Nat) (pp : PP) (a1 : Int32) (r : Int32) (h : f_X3_ifFought t hh pp a1 = some r) : Met l yX3_ifFought (wq yX3_ifFought cX3_ifFought 2 (some .int)) rm_X3_ifFought (q_R D (q_tys cI cZ cT) ((wX w o hs pd sl) ++ (wT cI o a t) ++ (wH cI cT hs hst ta ca hh) ++ (wPd cI pd sg nm pp)) (q_E G A) [.ref w, .int a1]) (vp_Si (fun r' => r' = r)) 0 0 (fun _ => False) := by
  refine q_RI (cc := cX3_ifFought) (maxL := 2) (ret := (some .int)) (plainFor_of_name (by decide)) (Nat.le_of_ble_eq_true rfl) (fun p e s m below meth c C0 hP hK hE ls hl => ?_)
  have hE : q_E G A s := hE
  have hS : va_S A s.heap s.heap [] := va_S.rf
  have hl : lv_has ls 2 [(0, .ref w), (1, .int a1)] := hl
  obtain ⟨hx, hb, hr, hml, hown, hts, hlocks⟩ := id C0
  have hF : CallFix p m c cX3_ifFought 2 s _ BW RX3 := ⟨hx, hb, hml, hown, hts⟩
  rw [f_X3_ifFought] at h
  refine lv_aload_n hx hb dX3_ifFought_0 rfl (lv_at hl 0 rfl) ?_
  refine va_get (D := D) (v := .ref o) (C := RX3) (T := TX3) (N := 4) hx hb hts iw_X3 hown hK hP 0 rfl rfl 0 (by decide) (hts _ mw_215) (fun _ h9 => h9) rfl dX3_ifFought_1 ?_
  refine lv_iload_n hx hb dX3_ifFought_4 rfl (lv_at hl 1 rfl) ?_
  obtain ⟨x1, h2, h⟩ := bE h
  refine x_RVN (As := [.int a1]) (rest := []) hF (c_X2_hasQuarrel l D cI cZ cT o a t a1 x1 h2) ⟨(va_cnB 1 hts (gq mw_63) rfl rfl rfl (nM_of hE 24 rfl) (hts _ mw_15) hd_X2_hasQuarrel.2 ⟨Nat.le_of_ble_eq_true rfl, Nat.le_of_ble_eq_true rfl⟩), hts _ mw_135, hts _ mw_136⟩ hK hP q_T_bl (fun _ _ _ => (trivial : True)) [1, 2] rfl rfl rfl rfl hl.1 rfl (Nat.le_of_ble_eq_true rfl) dX3_ifFought_5 ⟨Nat.zero_le _, Nat.zero_le _⟩ ?_
  refine lv_if_eq (tgt := 22) hx hb dX3_ifFought_8 (by decide) (fun c3 => ?_) (fun c3 => ?_)
  · have h := xt c3 h
    refine lv_iconst (v := (-1)) hx hb dX3_ifFought_22 (by decide) ?_
    cases h
    exact x_retR C0 rfl dX3_ifFought_23
  · have h := xf c3 h
    refine lv_aload_n hx hb dX3_ifFought_11 rfl (lv_at hl 0 rfl) ?_
    refine va_get (D := D) (v := .ref o) (C := RX3) (T := TX3) (N := 4) hx hb hts iw_X3 hown hK hP 0 rfl rfl 0 (by decide) (hts _ mw_215) (fun _ h9 => h9) rfl dX3_ifFought_12 ?_
    refine lv_iload_n hx hb dX3_ifFought_15 rfl (lv_at hl 1 rfl) ?_
    obtain ⟨x4, h5, h⟩ := bE h
    refine x_RVN (As := [.int a1]) (rest := []) hF (c_X2_winnerOf l D cI cZ cT o a t a1 x4 h5) ⟨(va_cnB 1 hts (gq mw_149) rfl rfl rfl (nM_of hE 33 rfl) (hts _ mw_15) hd_X2_winnerOf.2 ⟨Nat.le_of_ble_eq_true rfl, Nat.le_of_ble_eq_true rfl⟩), hts _ mw_158, hts _ mw_159⟩ hK hP q_T_bl (fun _ _ _ => (trivial : True)) [1, 2] rfl rfl rfl rfl hl.1 rfl (Nat.le_of_ble_eq_true rfl) dX3_ifFought_16 ⟨Nat.zero_le _, Nat.zero_le _⟩ ?_
    refine lv_goto (tgt := 23) hx hb dX3_ifFought_19 (by decide) ?_
    cases h
    exact x_retR C0 rfl dX3_ifFought_23

end G_X2

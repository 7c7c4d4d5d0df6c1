section G_X
variable {p : Program} {l : Launch} {e : Env} {s : State} {m : MethodId} {args : Array Value} {below : List Frame} {meth : Method} {c : Code} {D : va_G} {cI cZ cT : ClassId}

/-! QuarrelWays.set (II)I -/
def f_X3_set (t : TT) (hh : HH) (pp : PP) (a1 : Int32) (a2 : Int32) : Option (Int32 × TT × HH) := ((f_X0_note hh t).bind fun x1 => ((f_X2_changeSetting t a1 a2).bind fun x3 => ((f_X0_keepUnlessError x1 x3.1).bind fun x5 => some (x5.1, x3.2, x5.2))))
abbrev rm_X3_set : Room := { frames := 4, cells := 0, slots := 0, locals := 107 }
theorem hd_X3_set : yX3_set.cls = RX3 ∧ yX3_set.cls ≠ "java/lang/invoke/MethodHandle" ∧ yX3_set.cls ≠ "java/lang/invoke/VarHandle" ∧ (parseMethodDescriptor yX3_set.desc).map (fun d => d.parameters.length) = some 2 := by decide +kernel
set_option maxHeartbeats 4000000 in
set_option maxRecDepth 100000 in
theorem c_X3_set (l : Launch) (D : va_G) (cI cZ cT : ClassId) (G : q_G) (sz : Nat) (w sl : Nat) (o a : Nat) (t : TT) (hs hst : Nat) (ta ca : Nat → Nat) (hh : HH) (pd sg nm : Nat) (pp : PP) (a1 : Int32) (a2 : Int32) (r : Int32 × TT × HH) (h : f_X3_set t hh pp a1 a2 = some r) : Met l yX3_set (wq yX3_set cX3_set 3 (some .int)) rm_X3_set (q_M D (q_tys cI cZ cT) sz ((wX w o hs pd sl) ++ (wT cI o a t) ++ (wH cI cT hs hst ta ca hh) ++ (wPd cI pd sg nm pp)) (q_E G (va_A ((wX w o hs pd sl) ++ (wT cI o a t) ++ (wH cI cT hs hst ta ca hh) ++ (wPd cI pd sg nm pp)) sz)) [.ref w, .int a1, .int a2]) (va_Qi (fun r' _ => r' = r.1) (q_B D ((wX w o hs pd sl) ++ (wT cI o a t) ++ (wH cI cT hs hst ta ca hh) ++ (wPd cI pd sg nm pp)) sz ((wX w o hs pd sl) ++ (wT cI o a r.2.1) ++ (wH cI cT hs hst ta ca r.2.2) ++ (wPd cI pd sg nm pp))) (va_A ((wX w o hs pd sl) ++ (wT cI o a t) ++ (wH cI cT hs hst ta ca hh) ++ (wPd cI pd sg nm pp)) sz)) 0 0 (va_A ((wX w o hs pd sl) ++ (wT cI o a t) ++ (wH cI cT hs hst ta ca hh) ++ (wPd cI pd sg nm pp)) sz) := by
  refine q_MI (cc := cX3_set) (maxL := 3) (ret := (some .int)) (E := fun sz => (q_E G (va_A ((wX w o hs pd sl) ++ (wT cI o a t) ++ (wH cI cT hs hst ta ca hh) ++ (wPd cI pd sg nm pp)) sz))) (Qc := fun sz => (va_Qi (fun r' _ => r' = r.1) (q_B D ((wX w o hs pd sl) ++ (wT cI o a t) ++ (wH cI cT hs hst ta ca hh) ++ (wPd cI pd sg nm pp)) sz ((wX w o hs pd sl) ++ (wT cI o a r.2.1) ++ (wH cI cT hs hst ta ca r.2.2) ++ (wPd cI pd sg nm pp))) (va_A ((wX w o hs pd sl) ++ (wT cI o a t) ++ (wH cI cT hs hst ta ca hh) ++ (wPd cI pd sg nm pp)) sz))) (free := fun sz => va_A ((wX w o hs pd sl) ++ (wT cI o a t) ++ (wH cI cT hs hst ta ca hh) ++ (wPd cI pd sg nm pp)) sz) (plainFor_of_name (by decide)) (Nat.le_of_ble_eq_true rfl) (fun p e s m below meth c C0 hname hP hK hD hE ls hl => ?_)
  have hA : ∀ q, s.heap.size ≤ q → (va_A ((wX w o hs pd sl) ++ (wT cI o a t) ++ (wH cI cT hs hst ta ca hh) ++ (wPd cI pd sg nm pp)) s.heap.size) q := fun _ => Or.inr
  have hS : va_S (va_A ((wX w o hs pd sl) ++ (wT cI o a t) ++ (wH cI cT hs hst ta ca hh) ++ (wPd cI pd sg nm pp)) s.heap.size) s.heap s.heap [] := va_S.rf
  have hE : q_E G (va_A ((wX w o hs pd sl) ++ (wT cI o a t) ++ (wH cI cT hs hst ta ca hh) ++ (wPd cI pd sg nm pp)) s.heap.size) s := hE
  have hl : lv_has ls 3 [(0, .ref w), (1, .int a1), (2, .int a2)] := hl
  obtain ⟨hx, hb, hr, hml, hown, hts, hlocks⟩ := id C0
  have hF : CallFix p m c cX3_set 3 s _ BW RX3 := ⟨hx, hb, hml, hown, hts⟩
  rw [f_X3_set] at h
  refine lv_aload_n hx hb dX3_set_0 rfl (lv_at hl 0 rfl) ?_
  refine va_get (D := D) (v := .ref hs) (C := RX3) (T := TX3) (N := 4) hx hb hts iw_X3 hown hK hP 0 rfl rfl 1 (by decide) (hts _ mw_310) (fun _ h9 => h9) rfl dX3_set_1 ?_
  refine lv_aload_n hx hb dX3_set_4 rfl (lv_at hl 0 rfl) ?_
  refine va_get (D := D) (v := .ref o) (C := RX3) (T := TX3) (N := 4) hx hb hts iw_X3 hown hK hP 0 rfl rfl 0 (by decide) (hts _ mw_307) (fun _ h9 => h9) rfl dX3_set_5 ?_
  obtain ⟨x1, h2, h⟩ := bE h
  refine x_VVNp (As := [.ref o]) (rest := []) (wr := (wX w o hs pd sl) ++ (wPd cI pd sg nm pp)) (W1 := (wX w o hs pd sl) ++ (wT cI o a t) ++ (wH cI cT hs hst ta ca x1) ++ (wPd cI pd sg nm pp)) hF (c_X0_note l D cI cZ cT G _ hs hst ta ca hh o a t  x1 h2) ⟨(va_cnB 1 hts (gq mw_47) rfl rfl rfl (nM_of hE 6 rfl) (hts _ mw_33) hd_X0_note.2 ⟨Nat.le_of_ble_eq_true rfl, Nat.le_of_ble_eq_true rfl⟩), hts _ mw_318, hts _ mw_319⟩ hK hP hD hS hA q_E_bl (q_E_go hE hS (q_freep (p4_HT _ _ _ _) hD hS hA)) (p4_HT _ _ _ _) (p4_HT _ _ _ _).symm rfl rfl rfl hl.1 rfl (Nat.le_of_ble_eq_true rfl) dX3_set_8 ⟨Nat.zero_le _, Nat.zero_le _⟩ (fun H locs hP hD hS => ?_)
  refine lv_aload_n hx hb dX3_set_11 rfl (lv_at hl 0 rfl) ?_
  refine va_get (D := D) (v := .ref hs) (C := RX3) (T := TX3) (N := 4) hx hb hts iw_X3 hown hK hP 0 rfl rfl 1 (by decide) (hts _ mw_310) (fun _ h9 => h9) rfl dX3_set_12 ?_
  refine lv_aload_n hx hb dX3_set_15 rfl (lv_at hl 0 rfl) ?_
  refine va_get (D := D) (v := .ref o) (C := RX3) (T := TX3) (N := 4) hx hb hts iw_X3 hown hK hP 0 rfl rfl 0 (by decide) (hts _ mw_307) (fun _ h9 => h9) rfl dX3_set_16 ?_
  refine lv_iload_n hx hb dX3_set_19 rfl (lv_at hl 1 rfl) ?_
  refine lv_iload_n hx hb dX3_set_20 rfl (lv_at hl 2 rfl) ?_
  obtain ⟨x3, h4, h⟩ := bE h
  refine x_MVNp (As := [.int a1, .int a2]) (rest := [.ref hs]) (wr := (wX w o hs pd sl) ++ (wH cI cT hs hst ta ca x1) ++ (wPd cI pd sg nm pp)) (W1 := (wX w o hs pd sl) ++ (wT cI o a x3.2) ++ (wH cI cT hs hst ta ca x1) ++ (wPd cI pd sg nm pp)) hF (c_X2_changeSetting l D cI cZ cT G _ o a t a1 a2 x3 h4) ⟨(va_cnB 2 hts (gq mw_169) rfl rfl rfl (nM_of hE 7 rfl) (hts _ mw_15) hd_X2_changeSetting.2 ⟨Nat.le_of_ble_eq_true rfl, Nat.le_of_ble_eq_true rfl⟩), hts _ mw_320, hts _ mw_321⟩ hK hP hD hS hA q_E_bl (q_E_go hE hS (q_freep (p4_T _ _ _ _) hD hS hA)) (p4_T _ _ _ _) (p4_T _ _ _ _).symm rfl rfl rfl hl.1 rfl (Nat.le_of_ble_eq_true rfl) dX3_set_21 ⟨Nat.zero_le _, Nat.zero_le _⟩ (fun H locs hP hD hS => ?_)
  obtain ⟨x5, h6, h⟩ := bE h
  refine x_MVNp (As := [.int x3.1]) (rest := []) (wr := (wX w o hs pd sl) ++ (wT cI o a x3.2) ++ (wPd cI pd sg nm pp)) (W1 := (wX w o hs pd sl) ++ (wT cI o a x3.2) ++ (wH cI cT hs hst ta ca x5.2) ++ (wPd cI pd sg nm pp)) hF (c_X0_keepUnlessError l D cI cZ cT G _ hs hst ta ca x1 x3.1 x5 h6) ⟨(va_cnB 1 hts (gq mw_49) rfl rfl rfl (nM_of hE 8 rfl) (hts _ mw_33) hd_X0_keepUnlessError.2 ⟨Nat.le_of_ble_eq_true rfl, Nat.le_of_ble_eq_true rfl⟩), hts _ mw_322, hts _ mw_323⟩ hK hP hD hS hA q_E_bl (q_E_go hE hS (q_freep (p4_H _ _ _ _) hD hS hA)) (p4_H _ _ _ _) (p4_H _ _ _ _).symm rfl rfl rfl hl.1 rfl (Nat.le_of_ble_eq_true rfl) dX3_set_24 ⟨Nat.zero_le _, Nat.zero_le _⟩ (fun H locs hP hD hS => ?_)
  cases h
  exact x_retM C0 rfl hP hD hS dX3_set_27

/-! QuarrelWays.person (II)I -/
def f_X3_person (t : TT) (hh : HH) (pp : PP) (a1 : Int32) (a2 : Int32) : Option (Int32 × TT × HH) := ((f_X0_note hh t).bind fun x1 => ((f_X2_addPerson t a1 a2).bind fun x3 => ((f_X0_keepUnlessError x1 x3.1).bind fun x5 => some (x5.1, x3.2, x5.2))))
abbrev rm_X3_person : Room := { frames := 4, cells := 0, slots := 0, locals := 107 }
theorem hd_X3_person : yX3_person.cls = RX3 ∧ yX3_person.cls ≠ "java/lang/invoke/MethodHandle" ∧ yX3_person.cls ≠ "java/lang/invoke/VarHandle" ∧ (parseMethodDescriptor yX3_person.desc).map (fun d => d.parameters.length) = some 2 := by decide +kernel
set_option maxHeartbeats 4000000 in
set_option maxRecDepth 100000 in
theorem c_X3_person (l : Launch) (D : va_G) (cI cZ cT : ClassId) (G : q_G) (sz : Nat) (w sl : Nat) (o a : Nat) (t : TT) (hs hst : Nat) (ta ca : Nat → Nat) (hh : HH) (pd sg nm : Nat) (pp : PP) (a1 : Int32) (a2 : Int32) (r : Int32 × TT × HH) (h : f_X3_person t hh pp a1 a2 = some r) : Met l yX3_person (wq yX3_person cX3_person 3 (some .int)) rm_X3_person (q_M D (q_tys cI cZ cT) sz ((wX w o hs pd sl) ++ (wT cI o a t) ++ (wH cI cT hs hst ta ca hh) ++ (wPd cI pd sg nm pp)) (q_E G (va_A ((wX w o hs pd sl) ++ (wT cI o a t) ++ (wH cI cT hs hst ta ca hh) ++ (wPd cI pd sg nm pp)) sz)) [.ref w, .int a1, .int a2]) (va_Qi (fun r' _ => r' = r.1) (q_B D ((wX w o hs pd sl) ++ (wT cI o a t) ++ (wH cI cT hs hst ta ca hh) ++ (wPd cI pd sg nm pp)) sz ((wX w o hs pd sl) ++ (wT cI o a r.2.1) ++ (wH cI cT hs hst ta ca r.2.2) ++ (wPd cI pd sg nm pp))) (va_A ((wX w o hs pd sl) ++ (wT cI o a t) ++ (wH cI cT hs hst ta ca hh) ++ (wPd cI pd sg nm pp)) sz)) 0 0 (va_A ((wX w o hs pd sl) ++ (wT cI o a t) ++ (wH cI cT hs hst ta ca hh) ++ (wPd cI pd sg nm pp)) sz) := by
  refine q_MI (cc := cX3_person) (maxL := 3) (ret := (some .int)) (E := fun sz => (q_E G (va_A ((wX w o hs pd sl) ++ (wT cI o a t) ++ (wH cI cT hs hst ta ca hh) ++ (wPd cI pd sg nm pp)) sz))) (Qc := fun sz => (va_Qi (fun r' _ => r' = r.1) (q_B D ((wX w o hs pd sl) ++ (wT cI o a t) ++ (wH cI cT hs hst ta ca hh) ++ (wPd cI pd sg nm pp)) sz ((wX w o hs pd sl) ++ (wT cI o a r.2.1) ++ (wH cI cT hs hst ta ca r.2.2) ++ (wPd cI pd sg nm pp))) (va_A ((wX w o hs pd sl) ++ (wT cI o a t) ++ (wH cI cT hs hst ta ca hh) ++ (wPd cI pd sg nm pp)) sz))) (free := fun sz => va_A ((wX w o hs pd sl) ++ (wT cI o a t) ++ (wH cI cT hs hst ta ca hh) ++ (wPd cI pd sg nm pp)) sz) (plainFor_of_name (by decide)) (Nat.le_of_ble_eq_true rfl) (fun p e s m below meth c C0 hname hP hK hD hE ls hl => ?_)
  have hA : ∀ q, s.heap.size ≤ q → (va_A ((wX w o hs pd sl) ++ (wT cI o a t) ++ (wH cI cT hs hst ta ca hh) ++ (wPd cI pd sg nm pp)) s.heap.size) q := fun _ => Or.inr
  have hS : va_S (va_A ((wX w o hs pd sl) ++ (wT cI o a t) ++ (wH cI cT hs hst ta ca hh) ++ (wPd cI pd sg nm pp)) s.heap.size) s.heap s.heap [] := va_S.rf
  have hE : q_E G (va_A ((wX w o hs pd sl) ++ (wT cI o a t) ++ (wH cI cT hs hst ta ca hh) ++ (wPd cI pd sg nm pp)) s.heap.size) s := hE
  have hl : lv_has ls 3 [(0, .ref w), (1, .int a1), (2, .int a2)] := hl
  obtain ⟨hx, hb, hr, hml, hown, hts, hlocks⟩ := id C0
  have hF : CallFix p m c cX3_person 3 s _ BW RX3 := ⟨hx, hb, hml, hown, hts⟩
  rw [f_X3_person] at h
  refine lv_aload_n hx hb dX3_person_0 rfl (lv_at hl 0 rfl) ?_
  refine va_get (D := D) (v := .ref hs) (C := RX3) (T := TX3) (N := 4) hx hb hts iw_X3 hown hK hP 0 rfl rfl 1 (by decide) (hts _ mw_310) (fun _ h9 => h9) rfl dX3_person_1 ?_
  refine lv_aload_n hx hb dX3_person_4 rfl (lv_at hl 0 rfl) ?_
  refine va_get (D := D) (v := .ref o) (C := RX3) (T := TX3) (N := 4) hx hb hts iw_X3 hown hK hP 0 rfl rfl 0 (by decide) (hts _ mw_307) (fun _ h9 => h9) rfl dX3_person_5 ?_
  obtain ⟨x1, h2, h⟩ := bE h
  refine x_VVNp (As := [.ref o]) (rest := []) (wr := (wX w o hs pd sl) ++ (wPd cI pd sg nm pp)) (W1 := (wX w o hs pd sl) ++ (wT cI o a t) ++ (wH cI cT hs hst ta ca x1) ++ (wPd cI pd sg nm pp)) hF (c_X0_note l D cI cZ cT G _ hs hst ta ca hh o a t  x1 h2) ⟨(va_cnB 1 hts (gq mw_47) rfl rfl rfl (nM_of hE 6 rfl) (hts _ mw_33) hd_X0_note.2 ⟨Nat.le_of_ble_eq_true rfl, Nat.le_of_ble_eq_true rfl⟩), hts _ mw_318, hts _ mw_319⟩ hK hP hD hS hA q_E_bl (q_E_go hE hS (q_freep (p4_HT _ _ _ _) hD hS hA)) (p4_HT _ _ _ _) (p4_HT _ _ _ _).symm rfl rfl rfl hl.1 rfl (Nat.le_of_ble_eq_true rfl) dX3_person_8 ⟨Nat.zero_le _, Nat.zero_le _⟩ (fun H locs hP hD hS => ?_)
  refine lv_aload_n hx hb dX3_person_11 rfl (lv_at hl 0 rfl) ?_
  refine va_get (D := D) (v := .ref hs) (C := RX3) (T := TX3) (N := 4) hx hb hts iw_X3 hown hK hP 0 rfl rfl 1 (by decide) (hts _ mw_310) (fun _ h9 => h9) rfl dX3_person_12 ?_
  refine lv_aload_n hx hb dX3_person_15 rfl (lv_at hl 0 rfl) ?_
  refine va_get (D := D) (v := .ref o) (C := RX3) (T := TX3) (N := 4) hx hb hts iw_X3 hown hK hP 0 rfl rfl 0 (by decide) (hts _ mw_307) (fun _ h9 => h9) rfl dX3_person_16 ?_
  refine lv_iload_n hx hb dX3_person_19 rfl (lv_at hl 1 rfl) ?_
  refine lv_iload_n hx hb dX3_person_20 rfl (lv_at hl 2 rfl) ?_
  obtain ⟨x3, h4, h⟩ := bE h
  refine x_MVNp (As := [.int a1, .int a2]) (rest := [.ref hs]) (wr := (wX w o hs pd sl) ++ (wH cI cT hs hst ta ca x1) ++ (wPd cI pd sg nm pp)) (W1 := (wX w o hs pd sl) ++ (wT cI o a x3.2) ++ (wH cI cT hs hst ta ca x1) ++ (wPd cI pd sg nm pp)) hF (c_X2_addPerson l D cI cZ cT _ o a t a1 a2 x3 h4) ⟨(va_cnB 2 hts (gq mw_172) rfl rfl rfl (nM_of hE 9 rfl) (hts _ mw_15) hd_X2_addPerson.2 ⟨Nat.le_of_ble_eq_true rfl, Nat.le_of_ble_eq_true rfl⟩), hts _ mw_325, hts _ mw_326⟩ hK hP hD hS hA q_T_bl (fun _ _ _ => trivial) (p4_T _ _ _ _) (p4_T _ _ _ _).symm rfl rfl rfl hl.1 rfl (Nat.le_of_ble_eq_true rfl) dX3_person_21 ⟨Nat.zero_le _, Nat.zero_le _⟩ (fun H locs hP hD hS => ?_)
  obtain ⟨x5, h6, h⟩ := bE h
  refine x_MVNp (As := [.int x3.1]) (rest := []) (wr := (wX w o hs pd sl) ++ (wT cI o a x3.2) ++ (wPd cI pd sg nm pp)) (W1 := (wX w o hs pd sl) ++ (wT cI o a x3.2) ++ (wH cI cT hs hst ta ca x5.2) ++ (wPd cI pd sg nm pp)) hF (c_X0_keepUnlessError l D cI cZ cT G _ hs hst ta ca x1 x3.1 x5 h6) ⟨(va_cnB 1 hts (gq mw_49) rfl rfl rfl (nM_of hE 8 rfl) (hts _ mw_33) hd_X0_keepUnlessError.2 ⟨Nat.le_of_ble_eq_true rfl, Nat.le_of_ble_eq_true rfl⟩), hts _ mw_322, hts _ mw_323⟩ hK hP hD hS hA q_E_bl (q_E_go hE hS (q_freep (p4_H _ _ _ _) hD hS hA)) (p4_H _ _ _ _) (p4_H _ _ _ _).symm rfl rfl rfl hl.1 rfl (Nat.le_of_ble_eq_true rfl) dX3_person_24 ⟨Nat.zero_le _, Nat.zero_le _⟩ (fun H locs hP hD hS => ?_)
  cases h
  exact x_retM C0 rfl hP hD hS dX3_person_27

/-! QuarrelWays.second (II)I -/
def f_X3_second (t : TT) (hh : HH) (pp : PP) (a1 : Int32) (a2 : Int32) : Option (Int32 × TT × HH) := ((f_X0_note hh t).bind fun x1 => ((f_X2_takeSecond t a1 a2).bind fun x3 => ((f_X0_keepUnlessError x1 x3.1).bind fun x5 => some (x5.1, x3.2, x5.2))))
abbrev rm_X3_second : Room := { frames := 4, cells := 0, slots := 0, locals := 107 }
theorem hd_X3_second : yX3_second.cls = RX3 ∧ yX3_second.cls ≠ "java/lang/invoke/MethodHandle" ∧ yX3_second.cls ≠ "java/lang/invoke/VarHandle" ∧ (parseMethodDescriptor yX3_second.desc).map (fun d => d.parameters.length) = some 2 := by decide +kernel
set_option maxHeartbeats 4000000 in
set_option maxRecDepth 100000 in
theorem c_X3_second (l : Launch) (D : va_G) (cI cZ cT : ClassId) (G : q_G) (sz : Nat) (w sl : Nat) (o a : Nat) (t : TT) (hs hst : Nat) (ta ca : Nat → Nat) (hh : HH) (pd sg nm : Nat) (pp : PP) (a1 : Int32) (a2 : Int32) (r : Int32 × TT × HH) (h : f_X3_second t hh pp a1 a2 = some r) : Met l yX3_second (wq yX3_second cX3_second 3 (some .int)) rm_X3_second (q_M D (q_tys cI cZ cT) sz ((wX w o hs pd sl) ++ (wT cI o a t) ++ (wH cI cT hs hst ta ca hh) ++ (wPd cI pd sg nm pp)) (q_E G (va_A ((wX w o hs pd sl) ++ (wT cI o a t) ++ (wH cI cT hs hst ta ca hh) ++ (wPd cI pd sg nm pp)) sz)) [.ref w, .int a1, .int a2]) (va_Qi (fun r' _ => r' = r.1) (q_B D ((wX w o hs pd sl) ++ (wT cI o a t) ++ (wH cI cT hs hst ta ca hh) ++ (wPd cI pd sg nm pp)) sz ((wX w o hs pd sl) ++ (wT cI o a r.2.1) ++ (wH cI cT hs hst ta ca r.2.2) ++ (wPd cI pd sg nm pp))) (va_A ((wX w o hs pd sl) ++ (wT cI o a t) ++ (wH cI cT hs hst ta ca hh) ++ (wPd cI pd sg nm pp)) sz)) 0 0 (va_A ((wX w o hs pd sl) ++ (wT cI o a t) ++ (wH cI cT hs hst ta ca hh) ++ (wPd cI pd sg nm pp)) sz) := by
  refine q_MI (cc := cX3_second) (maxL := 3) (ret := (some .int)) (E := fun sz => (q_E G (va_A ((wX w o hs pd sl) ++ (wT cI o a t) ++ (wH cI cT hs hst ta ca hh) ++ (wPd cI pd sg nm pp)) sz))) (Qc := fun sz => (va_Qi (fun r' _ => r' = r.1) (q_B D ((wX w o hs pd sl) ++ (wT cI o a t) ++ (wH cI cT hs hst ta ca hh) ++ (wPd cI pd sg nm pp)) sz ((wX w o hs pd sl) ++ (wT cI o a r.2.1) ++ (wH cI cT hs hst ta ca r.2.2) ++ (wPd cI pd sg nm pp))) (va_A ((wX w o hs pd sl) ++ (wT cI o a t) ++ (wH cI cT hs hst ta ca hh) ++ (wPd cI pd sg nm pp)) sz))) (free := fun sz => va_A ((wX w o hs pd sl) ++ (wT cI o a t) ++ (wH cI cT hs hst ta ca hh) ++ (wPd cI pd sg nm pp)) sz) (plainFor_of_name (by decide)) (Nat.le_of_ble_eq_true rfl) (fun p e s m below meth c C0 hname hP hK hD hE ls hl => ?_)
  have hA : ∀ q, s.heap.size ≤ q → (va_A ((wX w o hs pd sl) ++ (wT cI o a t) ++ (wH cI cT hs hst ta ca hh) ++ (wPd cI pd sg nm pp)) s.heap.size) q := fun _ => Or.inr
  have hS : va_S (va_A ((wX w o hs pd sl) ++ (wT cI o a t) ++ (wH cI cT hs hst ta ca hh) ++ (wPd cI pd sg nm pp)) s.heap.size) s.heap s.heap [] := va_S.rf
  have hE : q_E G (va_A ((wX w o hs pd sl) ++ (wT cI o a t) ++ (wH cI cT hs hst ta ca hh) ++ (wPd cI pd sg nm pp)) s.heap.size) s := hE
  have hl : lv_has ls 3 [(0, .ref w), (1, .int a1), (2, .int a2)] := hl
  obtain ⟨hx, hb, hr, hml, hown, hts, hlocks⟩ := id C0
  have hF : CallFix p m c cX3_second 3 s _ BW RX3 := ⟨hx, hb, hml, hown, hts⟩
  rw [f_X3_second] at h
  refine lv_aload_n hx hb dX3_second_0 rfl (lv_at hl 0 rfl) ?_
  refine va_get (D := D) (v := .ref hs) (C := RX3) (T := TX3) (N := 4) hx hb hts iw_X3 hown hK hP 0 rfl rfl 1 (by decide) (hts _ mw_310) (fun _ h9 => h9) rfl dX3_second_1 ?_
  refine lv_aload_n hx hb dX3_second_4 rfl (lv_at hl 0 rfl) ?_
  refine va_get (D := D) (v := .ref o) (C := RX3) (T := TX3) (N := 4) hx hb hts iw_X3 hown hK hP 0 rfl rfl 0 (by decide) (hts _ mw_307) (fun _ h9 => h9) rfl dX3_second_5 ?_
  obtain ⟨x1, h2, h⟩ := bE h
  refine x_VVNp (As := [.ref o]) (rest := []) (wr := (wX w o hs pd sl) ++ (wPd cI pd sg nm pp)) (W1 := (wX w o hs pd sl) ++ (wT cI o a t) ++ (wH cI cT hs hst ta ca x1) ++ (wPd cI pd sg nm pp)) hF (c_X0_note l D cI cZ cT G _ hs hst ta ca hh o a t  x1 h2) ⟨(va_cnB 1 hts (gq mw_47) rfl rfl rfl (nM_of hE 6 rfl) (hts _ mw_33) hd_X0_note.2 ⟨Nat.le_of_ble_eq_true rfl, Nat.le_of_ble_eq_true rfl⟩), hts _ mw_318, hts _ mw_319⟩ hK hP hD hS hA q_E_bl (q_E_go hE hS (q_freep (p4_HT _ _ _ _) hD hS hA)) (p4_HT _ _ _ _) (p4_HT _ _ _ _).symm rfl rfl rfl hl.1 rfl (Nat.le_of_ble_eq_true rfl) dX3_second_8 ⟨Nat.zero_le _, Nat.zero_le _⟩ (fun H locs hP hD hS => ?_)
  refine lv_aload_n hx hb dX3_second_11 rfl (lv_at hl 0 rfl) ?_
  refine va_get (D := D) (v := .ref hs) (C := RX3) (T := TX3) (N := 4) hx hb hts iw_X3 hown hK hP 0 rfl rfl 1 (by decide) (hts _ mw_310) (fun _ h9 => h9) rfl dX3_second_12 ?_
  refine lv_aload_n hx hb dX3_second_15 rfl (lv_at hl 0 rfl) ?_
  refine va_get (D := D) (v := .ref o) (C := RX3) (T := TX3) (N := 4) hx hb hts iw_X3 hown hK hP 0 rfl rfl 0 (by decide) (hts _ mw_307) (fun _ h9 => h9) rfl dX3_second_16 ?_
  refine lv_iload_n hx hb dX3_second_19 rfl (lv_at hl 1 rfl) ?_
  refine lv_iload_n hx hb dX3_second_20 rfl (lv_at hl 2 rfl) ?_
  obtain ⟨x3, h4, h⟩ := bE h
  refine x_MVNp (As := [.int a1, .int a2]) (rest := [.ref hs]) (wr := (wX w o hs pd sl) ++ (wH cI cT hs hst ta ca x1) ++ (wPd cI pd sg nm pp)) (W1 := (wX w o hs pd sl) ++ (wT cI o a x3.2) ++ (wH cI cT hs hst ta ca x1) ++ (wPd cI pd sg nm pp)) hF (c_X2_takeSecond l D cI cZ cT _ o a t a1 a2 x3 h4) ⟨(va_cnB 2 hts (gq mw_175) rfl rfl rfl (nM_of hE 10 rfl) (hts _ mw_15) hd_X2_takeSecond.2 ⟨Nat.le_of_ble_eq_true rfl, Nat.le_of_ble_eq_true rfl⟩), hts _ mw_328, hts _ mw_329⟩ hK hP hD hS hA q_T_bl (fun _ _ _ => trivial) (p4_T _ _ _ _) (p4_T _ _ _ _).symm rfl rfl rfl hl.1 rfl (Nat.le_of_ble_eq_true rfl) dX3_second_21 ⟨Nat.zero_le _, Nat.zero_le _⟩ (fun H locs hP hD hS => ?_)
  obtain ⟨x5, h6, h⟩ := bE h
  refine x_MVNp (As := [.int x3.1]) (rest := []) (wr := (wX w o hs pd sl) ++ (wT cI o a x3.2) ++ (wPd cI pd sg nm pp)) (W1 := (wX w o hs pd sl) ++ (wT cI o a x3.2) ++ (wH cI cT hs hst ta ca x5.2) ++ (wPd cI pd sg nm pp)) hF (c_X0_keepUnlessError l D cI cZ cT G _ hs hst ta ca x1 x3.1 x5 h6) ⟨(va_cnB 1 hts (gq mw_49) rfl rfl rfl (nM_of hE 8 rfl) (hts _ mw_33) hd_X0_keepUnlessError.2 ⟨Nat.le_of_ble_eq_true rfl, Nat.le_of_ble_eq_true rfl⟩), hts _ mw_322, hts _ mw_323⟩ hK hP hD hS hA q_E_bl (q_E_go hE hS (q_freep (p4_H _ _ _ _) hD hS hA)) (p4_H _ _ _ _) (p4_H _ _ _ _).symm rfl rfl rfl hl.1 rfl (Nat.le_of_ble_eq_true rfl) dX3_second_24 ⟨Nat.zero_le _, Nat.zero_le _⟩ (fun H locs hP hD hS => ?_)
  cases h
  exact x_retM C0 rfl hP hD hS dX3_second_27

/-! QuarrelWays.allow (I)I -/
def f_X3_allow (t : TT) (hh : HH) (pp : PP) (a1 : Int32) : Option (Int32 × TT × HH) := ((f_X0_note hh t).bind fun x1 => ((f_X2_allowOrBar t a1).bind fun x3 => ((f_X0_keepUnlessError x1 x3.1).bind fun x5 => some (x5.1, x3.2, x5.2))))
abbrev rm_X3_allow : Room := { frames := 4, cells := 0, slots := 0, locals := 107 }
theorem hd_X3_allow : yX3_allow.cls = RX3 ∧ yX3_allow.cls ≠ "java/lang/invoke/MethodHandle" ∧ yX3_allow.cls ≠ "java/lang/invoke/VarHandle" ∧ (parseMethodDescriptor yX3_allow.desc).map (fun d => d.parameters.length) = some 1 := by decide +kernel
set_option maxHeartbeats 4000000 in
set_option maxRecDepth 100000 in
theorem c_X3_allow (l : Launch) (D : va_G) (cI cZ cT : ClassId) (G : q_G) (sz : Nat) (w sl : Nat) (o a : Nat) (t : TT) (hs hst : Nat) (ta ca : Nat → Nat) (hh : HH) (pd sg nm : Nat) (pp : PP) (a1 : Int32) (r : Int32 × TT × HH) (h : f_X3_allow t hh pp a1 = some r) : Met l yX3_allow (wq yX3_allow cX3_allow 2 (some .int)) rm_X3_allow (q_M D (q_tys cI cZ cT) sz ((wX w o hs pd sl) ++ (wT cI o a t) ++ (wH cI cT hs hst ta ca hh) ++ (wPd cI pd sg nm pp)) (q_E G (va_A ((wX w o hs pd sl) ++ (wT cI o a t) ++ (wH cI cT hs hst ta ca hh) ++ (wPd cI pd sg nm pp)) sz)) [.ref w, .int a1]) (va_Qi (fun r' _ => r' = r.1) (q_B D ((wX w o hs pd sl) ++ (wT cI o a t) ++ (wH cI cT hs hst ta ca hh) ++ (wPd cI pd sg nm pp)) sz ((wX w o hs pd sl) ++ (wT cI o a r.2.1) ++ (wH cI cT hs hst ta ca r.2.2) ++ (wPd cI pd sg nm pp))) (va_A ((wX w o hs pd sl) ++ (wT cI o a t) ++ (wH cI cT hs hst ta ca hh) ++ (wPd cI pd sg nm pp)) sz)) 0 0 (va_A ((wX w o hs pd sl) ++ (wT cI o a t) ++ (wH cI cT hs hst ta ca hh) ++ (wPd cI pd sg nm pp)) sz) := by
  refine q_MI (cc := cX3_allow) (maxL := 2) (ret := (some .int)) (E := fun sz => (q_E G (va_A ((wX w o hs pd sl) ++ (wT cI o a t) ++ (wH cI cT hs hst ta ca hh) ++ (wPd cI pd sg nm pp)) sz))) (Qc := fun sz => (va_Qi (fun r' _ => r' = r.1) (q_B D ((wX w o hs pd sl) ++ (wT cI o a t) ++ (wH cI cT hs hst ta ca hh) ++ (wPd cI pd sg nm pp)) sz ((wX w o hs pd sl) ++ (wT cI o a r.2.1) ++ (wH cI cT hs hst ta ca r.2.2) ++ (wPd cI pd sg nm pp))) (va_A ((wX w o hs pd sl) ++ (wT cI o a t) ++ (wH cI cT hs hst ta ca hh) ++ (wPd cI pd sg nm pp)) sz))) (free := fun sz => va_A ((wX w o hs pd sl) ++ (wT cI o a t) ++ (wH cI cT hs hst ta ca hh) ++ (wPd cI pd sg nm pp)) sz) (plainFor_of_name (by decide)) (Nat.le_of_ble_eq_true rfl) (fun p e s m below meth c C0 hname hP hK hD hE ls hl => ?_)
  have hA : ∀ q, s.heap.size ≤ q → (va_A ((wX w o hs pd sl) ++ (wT cI o a t) ++ (wH cI cT hs hst ta ca hh) ++ (wPd cI pd sg nm pp)) s.heap.size) q := fun _ => Or.inr
  have hS : va_S (va_A ((wX w o hs pd sl) ++ (wT cI o a t) ++ (wH cI cT hs hst ta ca hh) ++ (wPd cI pd sg nm pp)) s.heap.size) s.heap s.heap [] := va_S.rf
  have hE : q_E G (va_A ((wX w o hs pd sl) ++ (wT cI o a t) ++ (wH cI cT hs hst ta ca hh) ++ (wPd cI pd sg nm pp)) s.heap.size) s := hE
  have hl : lv_has ls 2 [(0, .ref w), (1, .int a1)] := hl
  obtain ⟨hx, hb, hr, hml, hown, hts, hlocks⟩ := id C0
  have hF : CallFix p m c cX3_allow 2 s _ BW RX3 := ⟨hx, hb, hml, hown, hts⟩
  rw [f_X3_allow] at h
  refine lv_aload_n hx hb dX3_allow_0 rfl (lv_at hl 0 rfl) ?_
  refine va_get (D := D) (v := .ref hs) (C := RX3) (T := TX3) (N := 4) hx hb hts iw_X3 hown hK hP 0 rfl rfl 1 (by decide) (hts _ mw_310) (fun _ h9 => h9) rfl dX3_allow_1 ?_
  refine lv_aload_n hx hb dX3_allow_4 rfl (lv_at hl 0 rfl) ?_
  refine va_get (D := D) (v := .ref o) (C := RX3) (T := TX3) (N := 4) hx hb hts iw_X3 hown hK hP 0 rfl rfl 0 (by decide) (hts _ mw_307) (fun _ h9 => h9) rfl dX3_allow_5 ?_
  obtain ⟨x1, h2, h⟩ := bE h
  refine x_VVNp (As := [.ref o]) (rest := []) (wr := (wX w o hs pd sl) ++ (wPd cI pd sg nm pp)) (W1 := (wX w o hs pd sl) ++ (wT cI o a t) ++ (wH cI cT hs hst ta ca x1) ++ (wPd cI pd sg nm pp)) hF (c_X0_note l D cI cZ cT G _ hs hst ta ca hh o a t  x1 h2) ⟨(va_cnB 1 hts (gq mw_47) rfl rfl rfl (nM_of hE 6 rfl) (hts _ mw_33) hd_X0_note.2 ⟨Nat.le_of_ble_eq_true rfl, Nat.le_of_ble_eq_true rfl⟩), hts _ mw_318, hts _ mw_319⟩ hK hP hD hS hA q_E_bl (q_E_go hE hS (q_freep (p4_HT _ _ _ _) hD hS hA)) (p4_HT _ _ _ _) (p4_HT _ _ _ _).symm rfl rfl rfl hl.1 rfl (Nat.le_of_ble_eq_true rfl) dX3_allow_8 ⟨Nat.zero_le _, Nat.zero_le _⟩ (fun H locs hP hD hS => ?_)
  refine lv_aload_n hx hb dX3_allow_11 rfl (lv_at hl 0 rfl) ?_
  refine va_get (D := D) (v := .ref hs) (C := RX3) (T := TX3) (N := 4) hx hb hts iw_X3 hown hK hP 0 rfl rfl 1 (by decide) (hts _ mw_310) (fun _ h9 => h9) rfl dX3_allow_12 ?_
  refine lv_aload_n hx hb dX3_allow_15 rfl (lv_at hl 0 rfl) ?_
  refine va_get (D := D) (v := .ref o) (C := RX3) (T := TX3) (N := 4) hx hb hts iw_X3 hown hK hP 0 rfl rfl 0 (by decide) (hts _ mw_307) (fun _ h9 => h9) rfl dX3_allow_16 ?_
  refine lv_iload_n hx hb dX3_allow_19 rfl (lv_at hl 1 rfl) ?_
  obtain ⟨x3, h4, h⟩ := bE h
  refine x_MVNp (As := [.int a1]) (rest := [.ref hs]) (wr := (wX w o hs pd sl) ++ (wH cI cT hs hst ta ca x1) ++ (wPd cI pd sg nm pp)) (W1 := (wX w o hs pd sl) ++ (wT cI o a x3.2) ++ (wH cI cT hs hst ta ca x1) ++ (wPd cI pd sg nm pp)) hF (c_X2_allowOrBar l D cI cZ cT _ o a t a1 x3 h4) ⟨(va_cnB 1 hts (gq mw_179) rfl rfl rfl (nM_of hE 11 rfl) (hts _ mw_15) hd_X2_allowOrBar.2 ⟨Nat.le_of_ble_eq_true rfl, Nat.le_of_ble_eq_true rfl⟩), hts _ mw_331, hts _ mw_332⟩ hK hP hD hS hA q_T_bl (fun _ _ _ => trivial) (p4_T _ _ _ _) (p4_T _ _ _ _).symm rfl rfl rfl hl.1 rfl (Nat.le_of_ble_eq_true rfl) dX3_allow_20 ⟨Nat.zero_le _, Nat.zero_le _⟩ (fun H locs hP hD hS => ?_)
  obtain ⟨x5, h6, h⟩ := bE h
  refine x_MVNp (As := [.int x3.1]) (rest := []) (wr := (wX w o hs pd sl) ++ (wT cI o a x3.2) ++ (wPd cI pd sg nm pp)) (W1 := (wX w o hs pd sl) ++ (wT cI o a x3.2) ++ (wH cI cT hs hst ta ca x5.2) ++ (wPd cI pd sg nm pp)) hF (c_X0_keepUnlessError l D cI cZ cT G _ hs hst ta ca x1 x3.1 x5 h6) ⟨(va_cnB 1 hts (gq mw_49) rfl rfl rfl (nM_of hE 8 rfl) (hts _ mw_33) hd_X0_keepUnlessError.2 ⟨Nat.le_of_ble_eq_true rfl, Nat.le_of_ble_eq_true rfl⟩), hts _ mw_322, hts _ mw_323⟩ hK hP hD hS hA q_E_bl (q_E_go hE hS (q_freep (p4_H _ _ _ _) hD hS hA)) (p4_H _ _ _ _) (p4_H _ _ _ _).symm rfl rfl rfl hl.1 rfl (Nat.le_of_ble_eq_true rfl) dX3_allow_23 ⟨Nat.zero_le _, Nat.zero_le _⟩ (fun H locs hP hD hS => ?_)
  cases h
  exact x_retM C0 rfl hP hD hS dX3_allow_26

/-! QuarrelWays.insult (III)I -/
def f_X3_insult (t : TT) (hh : HH) (pp : PP) (a1 : Int32) (a2 : Int32) (a3 : Int32) : Option (Int32 × TT × HH) := ((f_X0_note hh t).bind fun x1 => ((f_X2_addQuarrel t a1 a2 a3).bind fun x3 => ((f_X0_keepUnlessError x1 x3.1).bind fun x5 => some (x5.1, x3.2, x5.2))))
abbrev rm_X3_insult : Room := { frames := 4, cells := 0, slots := 0, locals := 107 }
theorem hd_X3_insult : yX3_insult.cls = RX3 ∧ yX3_insult.cls ≠ "java/lang/invoke/MethodHandle" ∧ yX3_insult.cls ≠ "java/lang/invoke/VarHandle" ∧ (parseMethodDescriptor yX3_insult.desc).map (fun d => d.parameters.length) = some 3 := by decide +kernel
set_option maxHeartbeats 4000000 in
set_option maxRecDepth 100000 in
theorem c_X3_insult (l : Launch) (D : va_G) (cI cZ cT : ClassId) (G : q_G) (sz : Nat) (w sl : Nat) (o a : Nat) (t : TT) (hs hst : Nat) (ta ca : Nat → Nat) (hh : HH) (pd sg nm : Nat) (pp : PP) (a1 : Int32) (a2 : Int32) (a3 : Int32) (r : Int32 × TT × HH) (h : f_X3_insult t hh pp a1 a2 a3 = some r) : Met l yX3_insult (wq yX3_insult cX3_insult 4 (some .int)) rm_X3_insult (q_M D (q_tys cI cZ cT) sz ((wX w o hs pd sl) ++ (wT cI o a t) ++ (wH cI cT hs hst ta ca hh) ++ (wPd cI pd sg nm pp)) (q_E G (va_A ((wX w o hs pd sl) ++ (wT cI o a t) ++ (wH cI cT hs hst ta ca hh) ++ (wPd cI pd sg nm pp)) sz)) [.ref w, .int a1, .int a2, .int a3]) (va_Qi (fun r' _ => r' = r.1) (q_B D ((wX w o hs pd sl) ++ (wT cI o a t) ++ (wH cI cT hs hst ta ca hh) ++ (wPd cI pd sg nm pp)) sz ((wX w o hs pd sl) ++ (wT cI o a r.2.1) ++ (wH cI cT hs hst ta ca r.2.2) ++ (wPd cI pd sg nm pp))) (va_A ((wX w o hs pd sl) ++ (wT cI o a t) ++ (wH cI cT hs hst ta ca hh) ++ (wPd cI pd sg nm pp)) sz)) 0 0 (va_A ((wX w o hs pd sl) ++ (wT cI o a t) ++ (wH cI cT hs hst ta ca hh) ++ (wPd cI pd sg nm pp)) sz) := by
  refine q_MI (cc := cX3_insult) (maxL := 4) (ret := (some .int)) (E := fun sz => (q_E G (va_A ((wX w o hs pd sl) ++ (wT cI o a t) ++ (wH cI cT hs hst ta ca hh) ++ (wPd cI pd sg nm pp)) sz))) (Qc := fun sz => (va_Qi (fun r' _ => r' = r.1) (q_B D ((wX w o hs pd sl) ++ (wT cI o a t) ++ (wH cI cT hs hst ta ca hh) ++ (wPd cI pd sg nm pp)) sz ((wX w o hs pd sl) ++ (wT cI o a r.2.1) ++ (wH cI cT hs hst ta ca r.2.2) ++ (wPd cI pd sg nm pp))) (va_A ((wX w o hs pd sl) ++ (wT cI o a t) ++ (wH cI cT hs hst ta ca hh) ++ (wPd cI pd sg nm pp)) sz))) (free := fun sz => va_A ((wX w o hs pd sl) ++ (wT cI o a t) ++ (wH cI cT hs hst ta ca hh) ++ (wPd cI pd sg nm pp)) sz) (plainFor_of_name (by decide)) (Nat.le_of_ble_eq_true rfl) (fun p e s m below meth c C0 hname hP hK hD hE ls hl => ?_)
  have hA : ∀ q, s.heap.size ≤ q → (va_A ((wX w o hs pd sl) ++ (wT cI o a t) ++ (wH cI cT hs hst ta ca hh) ++ (wPd cI pd sg nm pp)) s.heap.size) q := fun _ => Or.inr
  have hS : va_S (va_A ((wX w o hs pd sl) ++ (wT cI o a t) ++ (wH cI cT hs hst ta ca hh) ++ (wPd cI pd sg nm pp)) s.heap.size) s.heap s.heap [] := va_S.rf
  have hE : q_E G (va_A ((wX w o hs pd sl) ++ (wT cI o a t) ++ (wH cI cT hs hst ta ca hh) ++ (wPd cI pd sg nm pp)) s.heap.size) s := hE
  have hl : lv_has ls 4 [(0, .ref w), (1, .int a1), (2, .int a2), (3, .int a3)] := hl
  obtain ⟨hx, hb, hr, hml, hown, hts, hlocks⟩ := id C0
  have hF : CallFix p m c cX3_insult 4 s _ BW RX3 := ⟨hx, hb, hml, hown, hts⟩
  rw [f_X3_insult] at h
  refine lv_aload_n hx hb dX3_insult_0 rfl (lv_at hl 0 rfl) ?_
  refine va_get (D := D) (v := .ref hs) (C := RX3) (T := TX3) (N := 4) hx hb hts iw_X3 hown hK hP 0 rfl rfl 1 (by decide) (hts _ mw_310) (fun _ h9 => h9) rfl dX3_insult_1 ?_
  refine lv_aload_n hx hb dX3_insult_4 rfl (lv_at hl 0 rfl) ?_
  refine va_get (D := D) (v := .ref o) (C := RX3) (T := TX3) (N := 4) hx hb hts iw_X3 hown hK hP 0 rfl rfl 0 (by decide) (hts _ mw_307) (fun _ h9 => h9) rfl dX3_insult_5 ?_
  obtain ⟨x1, h2, h⟩ := bE h
  refine x_VVNp (As := [.ref o]) (rest := []) (wr := (wX w o hs pd sl) ++ (wPd cI pd sg nm pp)) (W1 := (wX w o hs pd sl) ++ (wT cI o a t) ++ (wH cI cT hs hst ta ca x1) ++ (wPd cI pd sg nm pp)) hF (c_X0_note l D cI cZ cT G _ hs hst ta ca hh o a t  x1 h2) ⟨(va_cnB 1 hts (gq mw_47) rfl rfl rfl (nM_of hE 6 rfl) (hts _ mw_33) hd_X0_note.2 ⟨Nat.le_of_ble_eq_true rfl, Nat.le_of_ble_eq_true rfl⟩), hts _ mw_318, hts _ mw_319⟩ hK hP hD hS hA q_E_bl (q_E_go hE hS (q_freep (p4_HT _ _ _ _) hD hS hA)) (p4_HT _ _ _ _) (p4_HT _ _ _ _).symm rfl rfl rfl hl.1 rfl (Nat.le_of_ble_eq_true rfl) dX3_insult_8 ⟨Nat.zero_le _, Nat.zero_le _⟩ (fun H locs hP hD hS => ?_)
  refine lv_aload_n hx hb dX3_insult_11 rfl (lv_at hl 0 rfl) ?_
  refine va_get (D := D) (v := .ref hs) (C := RX3) (T := TX3) (N := 4) hx hb hts iw_X3 hown hK hP 0 rfl rfl 1 (by decide) (hts _ mw_310) (fun _ h9 => h9) rfl dX3_insult_12 ?_
  refine lv_aload_n hx hb dX3_insult_15 rfl (lv_at hl 0 rfl) ?_
  refine va_get (D := D) (v := .ref o) (C := RX3) (T := TX3) (N := 4) hx hb hts iw_X3 hown hK hP 0 rfl rfl 0 (by decide) (hts _ mw_307) (fun _ h9 => h9) rfl dX3_insult_16 ?_
  refine lv_iload_n hx hb dX3_insult_19 rfl (lv_at hl 1 rfl) ?_
  refine lv_iload_n hx hb dX3_insult_20 rfl (lv_at hl 2 rfl) ?_
  refine lv_iload_n hx hb dX3_insult_21 rfl (lv_at hl 3 rfl) ?_
  obtain ⟨x3, h4, h⟩ := bE h
  refine x_MVNp (As := [.int a1, .int a2, .int a3]) (rest := [.ref hs]) (wr := (wX w o hs pd sl) ++ (wH cI cT hs hst ta ca x1) ++ (wPd cI pd sg nm pp)) (W1 := (wX w o hs pd sl) ++ (wT cI o a x3.2) ++ (wH cI cT hs hst ta ca x1) ++ (wPd cI pd sg nm pp)) hF (c_X2_addQuarrel l D cI cZ cT _ o a t a1 a2 a3 x3 h4) ⟨(va_cnB 3 hts (gq mw_200) rfl rfl rfl (nM_of hE 12 rfl) (hts _ mw_15) hd_X2_addQuarrel.2 ⟨Nat.le_of_ble_eq_true rfl, Nat.le_of_ble_eq_true rfl⟩), hts _ mw_334, hts _ mw_335⟩ hK hP hD hS hA q_T_bl (fun _ _ _ => trivial) (p4_T _ _ _ _) (p4_T _ _ _ _).symm rfl rfl rfl hl.1 rfl (Nat.le_of_ble_eq_true rfl) dX3_insult_22 ⟨Nat.zero_le _, Nat.zero_le _⟩ (fun H locs hP hD hS => ?_)
  obtain ⟨x5, h6, h⟩ := bE h
  refine x_MVNp (As := [.int x3.1]) (rest := []) (wr := (wX w o hs pd sl) ++ (wT cI o a x3.2) ++ (wPd cI pd sg nm pp)) (W1 := (wX w o hs pd sl) ++ (wT cI o a x3.2) ++ (wH cI cT hs hst ta ca x5.2) ++ (wPd cI pd sg nm pp)) hF (c_X0_keepUnlessError l D cI cZ cT G _ hs hst ta ca x1 x3.1 x5 h6) ⟨(va_cnB 1 hts (gq mw_49) rfl rfl rfl (nM_of hE 8 rfl) (hts _ mw_33) hd_X0_keepUnlessError.2 ⟨Nat.le_of_ble_eq_true rfl, Nat.le_of_ble_eq_true rfl⟩), hts _ mw_322, hts _ mw_323⟩ hK hP hD hS hA q_E_bl (q_E_go hE hS (q_freep (p4_H _ _ _ _) hD hS hA)) (p4_H _ _ _ _) (p4_H _ _ _ _).symm rfl rfl rfl hl.1 rfl (Nat.le_of_ble_eq_true rfl) dX3_insult_25 ⟨Nat.zero_le _, Nat.zero_le _⟩ (fun H locs hP hD hS => ?_)
  cases h
  exact x_retM C0 rfl hP hD hS dX3_insult_28

/-! QuarrelWays.settle (II)I -/
def f_X3_settle (t : TT) (hh : HH) (pp : PP) (a1 : Int32) (a2 : Int32) : Option (Int32 × TT × HH) := ((f_X0_note hh t).bind fun x1 => ((f_X2_settleBy t a1 a2).bind fun x3 => ((f_X0_keepUnlessError x1 x3.1).bind fun x5 => some (x5.1, x3.2, x5.2))))
abbrev rm_X3_settle : Room := { frames := 5, cells := 0, slots := 0, locals := 116 }
theorem hd_X3_settle : yX3_settle.cls = RX3 ∧ yX3_settle.cls ≠ "java/lang/invoke/MethodHandle" ∧ yX3_settle.cls ≠ "java/lang/invoke/VarHandle" ∧ (parseMethodDescriptor yX3_settle.desc).map (fun d => d.parameters.length) = some 2 := by decide +kernel
set_option maxHeartbeats 4000000 in
set_option maxRecDepth 100000 in
theorem c_X3_settle (l : Launch) (D : va_G) (cI cZ cT : ClassId) (G : q_G) (sz : Nat) (w sl : Nat) (o a : Nat) (t : TT) (hs hst : Nat) (ta ca : Nat → Nat) (hh : HH) (pd sg nm : Nat) (pp : PP) (a1 : Int32) (a2 : Int32) (r : Int32 × TT × HH) (h : f_X3_settle t hh pp a1 a2 = some r) : Met l yX3_settle (wq yX3_settle cX3_settle 3 (some .int)) rm_X3_settle (q_M D (q_tys cI cZ cT) sz ((wX w o hs pd sl) ++ (wT cI o a t) ++ (wH cI cT hs hst ta ca hh) ++ (wPd cI pd sg nm pp)) (q_E G (va_A ((wX w o hs pd sl) ++ (wT cI o a t) ++ (wH cI cT hs hst ta ca hh) ++ (wPd cI pd sg nm pp)) sz)) [.ref w, .int a1, .int a2]) (va_Qi (fun r' _ => r' = r.1) (q_B D ((wX w o hs pd sl) ++ (wT cI o a t) ++ (wH cI cT hs hst ta ca hh) ++ (wPd cI pd sg nm pp)) sz ((wX w o hs pd sl) ++ (wT cI o a r.2.1) ++ (wH cI cT hs hst ta ca r.2.2) ++ (wPd cI pd sg nm pp))) (va_A ((wX w o hs pd sl) ++ (wT cI o a t) ++ (wH cI cT hs hst ta ca hh) ++ (wPd cI pd sg nm pp)) sz)) 0 0 (va_A ((wX w o hs pd sl) ++ (wT cI o a t) ++ (wH cI cT hs hst ta ca hh) ++ (wPd cI pd sg nm pp)) sz) := by
  refine q_MI (cc := cX3_settle) (maxL := 3) (ret := (some .int)) (E := fun sz => (q_E G (va_A ((wX w o hs pd sl) ++ (wT cI o a t) ++ (wH cI cT hs hst ta ca hh) ++ (wPd cI pd sg nm pp)) sz))) (Qc := fun sz => (va_Qi (fun r' _ => r' = r.1) (q_B D ((wX w o hs pd sl) ++ (wT cI o a t) ++ (wH cI cT hs hst ta ca hh) ++ (wPd cI pd sg nm pp)) sz ((wX w o hs pd sl) ++ (wT cI o a r.2.1) ++ (wH cI cT hs hst ta ca r.2.2) ++ (wPd cI pd sg nm pp))) (va_A ((wX w o hs pd sl) ++ (wT cI o a t) ++ (wH cI cT hs hst ta ca hh) ++ (wPd cI pd sg nm pp)) sz))) (free := fun sz => va_A ((wX w o hs pd sl) ++ (wT cI o a t) ++ (wH cI cT hs hst ta ca hh) ++ (wPd cI pd sg nm pp)) sz) (plainFor_of_name (by decide)) (Nat.le_of_ble_eq_true rfl) (fun p e s m below meth c C0 hname hP hK hD hE ls hl => ?_)
  have hA : ∀ q, s.heap.size ≤ q → (va_A ((wX w o hs pd sl) ++ (wT cI o a t) ++ (wH cI cT hs hst ta ca hh) ++ (wPd cI pd sg nm pp)) s.heap.size) q := fun _ => Or.inr
  have hS : va_S (va_A ((wX w o hs pd sl) ++ (wT cI o a t) ++ (wH cI cT hs hst ta ca hh) ++ (wPd cI pd sg nm pp)) s.heap.size) s.heap s.heap [] := va_S.rf
  have hE : q_E G (va_A ((wX w o hs pd sl) ++ (wT cI o a t) ++ (wH cI cT hs hst ta ca hh) ++ (wPd cI pd sg nm pp)) s.heap.size) s := hE
  have hl : lv_has ls 3 [(0, .ref w), (1, .int a1), (2, .int a2)] := hl
  obtain ⟨hx, hb, hr, hml, hown, hts, hlocks⟩ := id C0
  have hF : CallFix p m c cX3_settle 3 s _ BW RX3 := ⟨hx, hb, hml, hown, hts⟩
  rw [f_X3_settle] at h
  refine lv_aload_n hx hb dX3_settle_0 rfl (lv_at hl 0 rfl) ?_
  refine va_get (D := D) (v := .ref hs) (C := RX3) (T := TX3) (N := 4) hx hb hts iw_X3 hown hK hP 0 rfl rfl 1 (by decide) (hts _ mw_310) (fun _ h9 => h9) rfl dX3_settle_1 ?_
  refine lv_aload_n hx hb dX3_settle_4 rfl (lv_at hl 0 rfl) ?_
  refine va_get (D := D) (v := .ref o) (C := RX3) (T := TX3) (N := 4) hx hb hts iw_X3 hown hK hP 0 rfl rfl 0 (by decide) (hts _ mw_307) (fun _ h9 => h9) rfl dX3_settle_5 ?_
  obtain ⟨x1, h2, h⟩ := bE h
  refine x_VVNp (As := [.ref o]) (rest := []) (wr := (wX w o hs pd sl) ++ (wPd cI pd sg nm pp)) (W1 := (wX w o hs pd sl) ++ (wT cI o a t) ++ (wH cI cT hs hst ta ca x1) ++ (wPd cI pd sg nm pp)) hF (c_X0_note l D cI cZ cT G _ hs hst ta ca hh o a t  x1 h2) ⟨(va_cnB 1 hts (gq mw_47) rfl rfl rfl (nM_of hE 6 rfl) (hts _ mw_33) hd_X0_note.2 ⟨Nat.le_of_ble_eq_true rfl, Nat.le_of_ble_eq_true rfl⟩), hts _ mw_318, hts _ mw_319⟩ hK hP hD hS hA q_E_bl (q_E_go hE hS (q_freep (p4_HT _ _ _ _) hD hS hA)) (p4_HT _ _ _ _) (p4_HT _ _ _ _).symm rfl rfl rfl hl.1 rfl (Nat.le_of_ble_eq_true rfl) dX3_settle_8 ⟨Nat.zero_le _, Nat.zero_le _⟩ (fun H locs hP hD hS => ?_)
  refine lv_aload_n hx hb dX3_settle_11 rfl (lv_at hl 0 rfl) ?_
  refine va_get (D := D) (v := .ref hs) (C := RX3) (T := TX3) (N := 4) hx hb hts iw_X3 hown hK hP 0 rfl rfl 1 (by decide) (hts _ mw_310) (fun _ h9 => h9) rfl dX3_settle_12 ?_
  refine lv_aload_n hx hb dX3_settle_15 rfl (lv_at hl 0 rfl) ?_
  refine va_get (D := D) (v := .ref o) (C := RX3) (T := TX3) (N := 4) hx hb hts iw_X3 hown hK hP 0 rfl rfl 0 (by decide) (hts _ mw_307) (fun _ h9 => h9) rfl dX3_settle_16 ?_
  refine lv_iload_n hx hb dX3_settle_19 rfl (lv_at hl 1 rfl) ?_
  refine lv_iload_n hx hb dX3_settle_20 rfl (lv_at hl 2 rfl) ?_
  obtain ⟨x3, h4, h⟩ := bE h
  refine x_MVNp (As := [.int a1, .int a2]) (rest := [.ref hs]) (wr := (wX w o hs pd sl) ++ (wH cI cT hs hst ta ca x1) ++ (wPd cI pd sg nm pp)) (W1 := (wX w o hs pd sl) ++ (wT cI o a x3.2) ++ (wH cI cT hs hst ta ca x1) ++ (wPd cI pd sg nm pp)) hF (c_X2_settleBy l D cI cZ cT _ o a t a1 a2 x3 h4) ⟨(va_cnB 2 hts (gq mw_238) rfl rfl rfl (nM_of hE 13 rfl) (hts _ mw_15) hd_X2_settleBy.2 ⟨Nat.le_of_ble_eq_true rfl, Nat.le_of_ble_eq_true rfl⟩), hts _ mw_337, hts _ mw_338⟩ hK hP hD hS hA q_T_bl (fun _ _ _ => trivial) (p4_T _ _ _ _) (p4_T _ _ _ _).symm rfl rfl rfl hl.1 rfl (Nat.le_of_ble_eq_true rfl) dX3_settle_21 ⟨Nat.zero_le _, Nat.zero_le _⟩ (fun H locs hP hD hS => ?_)
  obtain ⟨x5, h6, h⟩ := bE h
  refine x_MVNp (As := [.int x3.1]) (rest := []) (wr := (wX w o hs pd sl) ++ (wT cI o a x3.2) ++ (wPd cI pd sg nm pp)) (W1 := (wX w o hs pd sl) ++ (wT cI o a x3.2) ++ (wH cI cT hs hst ta ca x5.2) ++ (wPd cI pd sg nm pp)) hF (c_X0_keepUnlessError l D cI cZ cT G _ hs hst ta ca x1 x3.1 x5 h6) ⟨(va_cnB 1 hts (gq mw_49) rfl rfl rfl (nM_of hE 8 rfl) (hts _ mw_33) hd_X0_keepUnlessError.2 ⟨Nat.le_of_ble_eq_true rfl, Nat.le_of_ble_eq_true rfl⟩), hts _ mw_322, hts _ mw_323⟩ hK hP hD hS hA q_E_bl (q_E_go hE hS (q_freep (p4_H _ _ _ _) hD hS hA)) (p4_H _ _ _ _) (p4_H _ _ _ _).symm rfl rfl rfl hl.1 rfl (Nat.le_of_ble_eq_true rfl) dX3_settle_24 ⟨Nat.zero_le _, Nat.zero_le _⟩ (fun H locs hP hD hS => ?_)
  cases h
  exact x_retM C0 rfl hP hD hS dX3_settle_27

/-! QuarrelWays.fight (I)I -/
def f_X3_fight (t : TT) (hh : HH) (pp : PP) (a1 : Int32) : Option (Int32 × TT × HH) := ((f_X0_note hh t).bind fun x1 => ((f_X2_duel t a1).bind fun x3 => ((f_X0_keepUnlessError x1 x3.1).bind fun x5 => some (x5.1, x3.2, x5.2))))
abbrev rm_X3_fight : Room := { frames := 5, cells := 0, slots := 0, locals := 118 }
theorem hd_X3_fight : yX3_fight.cls = RX3 ∧ yX3_fight.cls ≠ "java/lang/invoke/MethodHandle" ∧ yX3_fight.cls ≠ "java/lang/invoke/VarHandle" ∧ (parseMethodDescriptor yX3_fight.desc).map (fun d => d.parameters.length) = some 1 := by decide +kernel
set_option maxHeartbeats 4000000 in
set_option maxRecDepth 100000 in
theorem c_X3_fight (l : Launch) (D : va_G) (cI cZ cT : ClassId) (G : q_G) (sz : Nat) (w sl : Nat) (o a : Nat) (t : TT) (hs hst : Nat) (ta ca : Nat → Nat) (hh : HH) (pd sg nm : Nat) (pp : PP) (a1 : Int32) (r : Int32 × TT × HH) (h : f_X3_fight t hh pp a1 = some r) : Met l yX3_fight (wq yX3_fight cX3_fight 2 (some .int)) rm_X3_fight (q_M D (q_tys cI cZ cT) sz ((wX w o hs pd sl) ++ (wT cI o a t) ++ (wH cI cT hs hst ta ca hh) ++ (wPd cI pd sg nm pp)) (q_E G (va_A ((wX w o hs pd sl) ++ (wT cI o a t) ++ (wH cI cT hs hst ta ca hh) ++ (wPd cI pd sg nm pp)) sz)) [.ref w, .int a1]) (va_Qi (fun r' _ => r' = r.1) (q_B D ((wX w o hs pd sl) ++ (wT cI o a t) ++ (wH cI cT hs hst ta ca hh) ++ (wPd cI pd sg nm pp)) sz ((wX w o hs pd sl) ++ (wT cI o a r.2.1) ++ (wH cI cT hs hst ta ca r.2.2) ++ (wPd cI pd sg nm pp))) (va_A ((wX w o hs pd sl) ++ (wT cI o a t) ++ (wH cI cT hs hst ta ca hh) ++ (wPd cI pd sg nm pp)) sz)) 0 0 (va_A ((wX w o hs pd sl) ++ (wT cI o a t) ++ (wH cI cT hs hst ta ca hh) ++ (wPd cI pd sg nm pp)) sz) := by
  refine q_MI (cc := cX3_fight) (maxL := 2) (ret := (some .int)) (E := fun sz => (q_E G (va_A ((wX w o hs pd sl) ++ (wT cI o a t) ++ (wH cI cT hs hst ta ca hh) ++ (wPd cI pd sg nm pp)) sz))) (Qc := fun sz => (va_Qi (fun r' _ => r' = r.1) (q_B D ((wX w o hs pd sl) ++ (wT cI o a t) ++ (wH cI cT hs hst ta ca hh) ++ (wPd cI pd sg nm pp)) sz ((wX w o hs pd sl) ++ (wT cI o a r.2.1) ++ (wH cI cT hs hst ta ca r.2.2) ++ (wPd cI pd sg nm pp))) (va_A ((wX w o hs pd sl) ++ (wT cI o a t) ++ (wH cI cT hs hst ta ca hh) ++ (wPd cI pd sg nm pp)) sz))) (free := fun sz => va_A ((wX w o hs pd sl) ++ (wT cI o a t) ++ (wH cI cT hs hst ta ca hh) ++ (wPd cI pd sg nm pp)) sz) (plainFor_of_name (by decide)) (Nat.le_of_ble_eq_true rfl) (fun p e s m below meth c C0 hname hP hK hD hE ls hl => ?_)
  have hA : ∀ q, s.heap.size ≤ q → (va_A ((wX w o hs pd sl) ++ (wT cI o a t) ++ (wH cI cT hs hst ta ca hh) ++ (wPd cI pd sg nm pp)) s.heap.size) q := fun _ => Or.inr
  have hS : va_S (va_A ((wX w o hs pd sl) ++ (wT cI o a t) ++ (wH cI cT hs hst ta ca hh) ++ (wPd cI pd sg nm pp)) s.heap.size) s.heap s.heap [] := va_S.rf
  have hE : q_E G (va_A ((wX w o hs pd sl) ++ (wT cI o a t) ++ (wH cI cT hs hst ta ca hh) ++ (wPd cI pd sg nm pp)) s.heap.size) s := hE
  have hl : lv_has ls 2 [(0, .ref w), (1, .int a1)] := hl
  obtain ⟨hx, hb, hr, hml, hown, hts, hlocks⟩ := id C0
  have hF : CallFix p m c cX3_fight 2 s _ BW RX3 := ⟨hx, hb, hml, hown, hts⟩
  rw [f_X3_fight] at h
  refine lv_aload_n hx hb dX3_fight_0 rfl (lv_at hl 0 rfl) ?_
  refine va_get (D := D) (v := .ref hs) (C := RX3) (T := TX3) (N := 4) hx hb hts iw_X3 hown hK hP 0 rfl rfl 1 (by decide) (hts _ mw_310) (fun _ h9 => h9) rfl dX3_fight_1 ?_
  refine lv_aload_n hx hb dX3_fight_4 rfl (lv_at hl 0 rfl) ?_
  refine va_get (D := D) (v := .ref o) (C := RX3) (T := TX3) (N := 4) hx hb hts iw_X3 hown hK hP 0 rfl rfl 0 (by decide) (hts _ mw_307) (fun _ h9 => h9) rfl dX3_fight_5 ?_
  obtain ⟨x1, h2, h⟩ := bE h
  refine x_VVNp (As := [.ref o]) (rest := []) (wr := (wX w o hs pd sl) ++ (wPd cI pd sg nm pp)) (W1 := (wX w o hs pd sl) ++ (wT cI o a t) ++ (wH cI cT hs hst ta ca x1) ++ (wPd cI pd sg nm pp)) hF (c_X0_note l D cI cZ cT G _ hs hst ta ca hh o a t  x1 h2) ⟨(va_cnB 1 hts (gq mw_47) rfl rfl rfl (nM_of hE 6 rfl) (hts _ mw_33) hd_X0_note.2 ⟨Nat.le_of_ble_eq_true rfl, Nat.le_of_ble_eq_true rfl⟩), hts _ mw_318, hts _ mw_319⟩ hK hP hD hS hA q_E_bl (q_E_go hE hS (q_freep (p4_HT _ _ _ _) hD hS hA)) (p4_HT _ _ _ _) (p4_HT _ _ _ _).symm rfl rfl rfl hl.1 rfl (Nat.le_of_ble_eq_true rfl) dX3_fight_8 ⟨Nat.zero_le _, Nat.zero_le _⟩ (fun H locs hP hD hS => ?_)
  refine lv_aload_n hx hb dX3_fight_11 rfl (lv_at hl 0 rfl) ?_
  refine va_get (D := D) (v := .ref hs) (C := RX3) (T := TX3) (N := 4) hx hb hts iw_X3 hown hK hP 0 rfl rfl 1 (by decide) (hts _ mw_310) (fun _ h9 => h9) rfl dX3_fight_12 ?_
  refine lv_aload_n hx hb dX3_fight_15 rfl (lv_at hl 0 rfl) ?_
  refine va_get (D := D) (v := .ref o) (C := RX3) (T := TX3) (N := 4) hx hb hts iw_X3 hown hK hP 0 rfl rfl 0 (by decide) (hts _ mw_307) (fun _ h9 => h9) rfl dX3_fight_16 ?_
  refine lv_iload_n hx hb dX3_fight_19 rfl (lv_at hl 1 rfl) ?_
  obtain ⟨x3, h4, h⟩ := bE h
  refine x_MVNp (As := [.int a1]) (rest := [.ref hs]) (wr := (wX w o hs pd sl) ++ (wH cI cT hs hst ta ca x1) ++ (wPd cI pd sg nm pp)) (W1 := (wX w o hs pd sl) ++ (wT cI o a x3.2) ++ (wH cI cT hs hst ta ca x1) ++ (wPd cI pd sg nm pp)) hF (c_X2_duel l D cI cZ cT _ o a t a1 x3 h4) ⟨(va_cnB 1 hts (gq mw_255) rfl rfl rfl (nM_of hE 14 rfl) (hts _ mw_15) hd_X2_duel.2 ⟨Nat.le_of_ble_eq_true rfl, Nat.le_of_ble_eq_true rfl⟩), hts _ mw_340, hts _ mw_341⟩ hK hP hD hS hA q_T_bl (fun _ _ _ => trivial) (p4_T _ _ _ _) (p4_T _ _ _ _).symm rfl rfl rfl hl.1 rfl (Nat.le_of_ble_eq_true rfl) dX3_fight_20 ⟨Nat.zero_le _, Nat.zero_le _⟩ (fun H locs hP hD hS => ?_)
  obtain ⟨x5, h6, h⟩ := bE h
  refine x_MVNp (As := [.int x3.1]) (rest := []) (wr := (wX w o hs pd sl) ++ (wT cI o a x3.2) ++ (wPd cI pd sg nm pp)) (W1 := (wX w o hs pd sl) ++ (wT cI o a x3.2) ++ (wH cI cT hs hst ta ca x5.2) ++ (wPd cI pd sg nm pp)) hF (c_X0_keepUnlessError l D cI cZ cT G _ hs hst ta ca x1 x3.1 x5 h6) ⟨(va_cnB 1 hts (gq mw_49) rfl rfl rfl (nM_of hE 8 rfl) (hts _ mw_33) hd_X0_keepUnlessError.2 ⟨Nat.le_of_ble_eq_true rfl, Nat.le_of_ble_eq_true rfl⟩), hts _ mw_322, hts _ mw_323⟩ hK hP hD hS hA q_E_bl (q_E_go hE hS (q_freep (p4_H _ _ _ _) hD hS hA)) (p4_H _ _ _ _) (p4_H _ _ _ _).symm rfl rfl rfl hl.1 rfl (Nat.le_of_ble_eq_true rfl) dX3_fight_23 ⟨Nat.zero_le _, Nat.zero_le _⟩ (fun H locs hP hD hS => ?_)
  cases h
  exact x_retM C0 rfl hP hD hS dX3_fight_26

/-! QuarrelWays.swear (I)I -/
def f_X3_swear (t : TT) (hh : HH) (pp : PP) (a1 : Int32) : Option (Int32 × TT × HH) := ((f_X0_note hh t).bind fun x1 => ((f_X2_takeOath t a1).bind fun x3 => ((f_X0_keepUnlessError x1 x3.1).bind fun x5 => some (x5.1, x3.2, x5.2))))
abbrev rm_X3_swear : Room := { frames := 4, cells := 0, slots := 0, locals := 107 }
theorem hd_X3_swear : yX3_swear.cls = RX3 ∧ yX3_swear.cls ≠ "java/lang/invoke/MethodHandle" ∧ yX3_swear.cls ≠ "java/lang/invoke/VarHandle" ∧ (parseMethodDescriptor yX3_swear.desc).map (fun d => d.parameters.length) = some 1 := by decide +kernel
set_option maxHeartbeats 4000000 in
set_option maxRecDepth 100000 in
theorem c_X3_swear (l : Launch) (D : va_G) (cI cZ cT : ClassId) (G : q_G) (sz : Nat) (w sl : Nat) (o a : Nat) (t : TT) (hs hst : Nat) (ta ca : Nat → Nat) (hh : HH) (pd sg nm : Nat) (pp : PP) (a1 : Int32) (r : Int32 × TT × HH) (h : f_X3_swear t hh pp a1 = some r) : Met l yX3_swear (wq yX3_swear cX3_swear 2 (some .int)) rm_X3_swear (q_M D (q_tys cI cZ cT) sz ((wX w o hs pd sl) ++ (wT cI o a t) ++ (wH cI cT hs hst ta ca hh) ++ (wPd cI pd sg nm pp)) (q_E G (va_A ((wX w o hs pd sl) ++ (wT cI o a t) ++ (wH cI cT hs hst ta ca hh) ++ (wPd cI pd sg nm pp)) sz)) [.ref w, .int a1]) (va_Qi (fun r' _ => r' = r.1) (q_B D ((wX w o hs pd sl) ++ (wT cI o a t) ++ (wH cI cT hs hst ta ca hh) ++ (wPd cI pd sg nm pp)) sz ((wX w o hs pd sl) ++ (wT cI o a r.2.1) ++ (wH cI cT hs hst ta ca r.2.2) ++ (wPd cI pd sg nm pp))) (va_A ((wX w o hs pd sl) ++ (wT cI o a t) ++ (wH cI cT hs hst ta ca hh) ++ (wPd cI pd sg nm pp)) sz)) 0 0 (va_A ((wX w o hs pd sl) ++ (wT cI o a t) ++ (wH cI cT hs hst ta ca hh) ++ (wPd cI pd sg nm pp)) sz) := by
  refine q_MI (cc := cX3_swear) (maxL := 2) (ret := (some .int)) (E := fun sz => (q_E G (va_A ((wX w o hs pd sl) ++ (wT cI o a t) ++ (wH cI cT hs hst ta ca hh) ++ (wPd cI pd sg nm pp)) sz))) (Qc := fun sz => (va_Qi (fun r' _ => r' = r.1) (q_B D ((wX w o hs pd sl) ++ (wT cI o a t) ++ (wH cI cT hs hst ta ca hh) ++ (wPd cI pd sg nm pp)) sz ((wX w o hs pd sl) ++ (wT cI o a r.2.1) ++ (wH cI cT hs hst ta ca r.2.2) ++ (wPd cI pd sg nm pp))) (va_A ((wX w o hs pd sl) ++ (wT cI o a t) ++ (wH cI cT hs hst ta ca hh) ++ (wPd cI pd sg nm pp)) sz))) (free := fun sz => va_A ((wX w o hs pd sl) ++ (wT cI o a t) ++ (wH cI cT hs hst ta ca hh) ++ (wPd cI pd sg nm pp)) sz) (plainFor_of_name (by decide)) (Nat.le_of_ble_eq_true rfl) (fun p e s m below meth c C0 hname hP hK hD hE ls hl => ?_)
  have hA : ∀ q, s.heap.size ≤ q → (va_A ((wX w o hs pd sl) ++ (wT cI o a t) ++ (wH cI cT hs hst ta ca hh) ++ (wPd cI pd sg nm pp)) s.heap.size) q := fun _ => Or.inr
  have hS : va_S (va_A ((wX w o hs pd sl) ++ (wT cI o a t) ++ (wH cI cT hs hst ta ca hh) ++ (wPd cI pd sg nm pp)) s.heap.size) s.heap s.heap [] := va_S.rf
  have hE : q_E G (va_A ((wX w o hs pd sl) ++ (wT cI o a t) ++ (wH cI cT hs hst ta ca hh) ++ (wPd cI pd sg nm pp)) s.heap.size) s := hE
  have hl : lv_has ls 2 [(0, .ref w), (1, .int a1)] := hl
  obtain ⟨hx, hb, hr, hml, hown, hts, hlocks⟩ := id C0
  have hF : CallFix p m c cX3_swear 2 s _ BW RX3 := ⟨hx, hb, hml, hown, hts⟩
  rw [f_X3_swear] at h
  refine lv_aload_n hx hb dX3_swear_0 rfl (lv_at hl 0 rfl) ?_
  refine va_get (D := D) (v := .ref hs) (C := RX3) (T := TX3) (N := 4) hx hb hts iw_X3 hown hK hP 0 rfl rfl 1 (by decide) (hts _ mw_310) (fun _ h9 => h9) rfl dX3_swear_1 ?_
  refine lv_aload_n hx hb dX3_swear_4 rfl (lv_at hl 0 rfl) ?_
  refine va_get (D := D) (v := .ref o) (C := RX3) (T := TX3) (N := 4) hx hb hts iw_X3 hown hK hP 0 rfl rfl 0 (by decide) (hts _ mw_307) (fun _ h9 => h9) rfl dX3_swear_5 ?_
  obtain ⟨x1, h2, h⟩ := bE h
  refine x_VVNp (As := [.ref o]) (rest := []) (wr := (wX w o hs pd sl) ++ (wPd cI pd sg nm pp)) (W1 := (wX w o hs pd sl) ++ (wT cI o a t) ++ (wH cI cT hs hst ta ca x1) ++ (wPd cI pd sg nm pp)) hF (c_X0_note l D cI cZ cT G _ hs hst ta ca hh o a t  x1 h2) ⟨(va_cnB 1 hts (gq mw_47) rfl rfl rfl (nM_of hE 6 rfl) (hts _ mw_33) hd_X0_note.2 ⟨Nat.le_of_ble_eq_true rfl, Nat.le_of_ble_eq_true rfl⟩), hts _ mw_318, hts _ mw_319⟩ hK hP hD hS hA q_E_bl (q_E_go hE hS (q_freep (p4_HT _ _ _ _) hD hS hA)) (p4_HT _ _ _ _) (p4_HT _ _ _ _).symm rfl rfl rfl hl.1 rfl (Nat.le_of_ble_eq_true rfl) dX3_swear_8 ⟨Nat.zero_le _, Nat.zero_le _⟩ (fun H locs hP hD hS => ?_)
  refine lv_aload_n hx hb dX3_swear_11 rfl (lv_at hl 0 rfl) ?_
  refine va_get (D := D) (v := .ref hs) (C := RX3) (T := TX3) (N := 4) hx hb hts iw_X3 hown hK hP 0 rfl rfl 1 (by decide) (hts _ mw_310) (fun _ h9 => h9) rfl dX3_swear_12 ?_
  refine lv_aload_n hx hb dX3_swear_15 rfl (lv_at hl 0 rfl) ?_
  refine va_get (D := D) (v := .ref o) (C := RX3) (T := TX3) (N := 4) hx hb hts iw_X3 hown hK hP 0 rfl rfl 0 (by decide) (hts _ mw_307) (fun _ h9 => h9) rfl dX3_swear_16 ?_
  refine lv_iload_n hx hb dX3_swear_19 rfl (lv_at hl 1 rfl) ?_
  obtain ⟨x3, h4, h⟩ := bE h
  refine x_MVNp (As := [.int a1]) (rest := [.ref hs]) (wr := (wX w o hs pd sl) ++ (wH cI cT hs hst ta ca x1) ++ (wPd cI pd sg nm pp)) (W1 := (wX w o hs pd sl) ++ (wT cI o a x3.2) ++ (wH cI cT hs hst ta ca x1) ++ (wPd cI pd sg nm pp)) hF (c_X2_takeOath l D cI cZ cT _ o a t a1 x3 h4) ⟨(va_cnB 1 hts (gq mw_256) rfl rfl rfl (nM_of hE 15 rfl) (hts _ mw_15) hd_X2_takeOath.2 ⟨Nat.le_of_ble_eq_true rfl, Nat.le_of_ble_eq_true rfl⟩), hts _ mw_343, hts _ mw_344⟩ hK hP hD hS hA q_T_bl (fun _ _ _ => trivial) (p4_T _ _ _ _) (p4_T _ _ _ _).symm rfl rfl rfl hl.1 rfl (Nat.le_of_ble_eq_true rfl) dX3_swear_20 ⟨Nat.zero_le _, Nat.zero_le _⟩ (fun H locs hP hD hS => ?_)
  obtain ⟨x5, h6, h⟩ := bE h
  refine x_MVNp (As := [.int x3.1]) (rest := []) (wr := (wX w o hs pd sl) ++ (wT cI o a x3.2) ++ (wPd cI pd sg nm pp)) (W1 := (wX w o hs pd sl) ++ (wT cI o a x3.2) ++ (wH cI cT hs hst ta ca x5.2) ++ (wPd cI pd sg nm pp)) hF (c_X0_keepUnlessError l D cI cZ cT G _ hs hst ta ca x1 x3.1 x5 h6) ⟨(va_cnB 1 hts (gq mw_49) rfl rfl rfl (nM_of hE 8 rfl) (hts _ mw_33) hd_X0_keepUnlessError.2 ⟨Nat.le_of_ble_eq_true rfl, Nat.le_of_ble_eq_true rfl⟩), hts _ mw_322, hts _ mw_323⟩ hK hP hD hS hA q_E_bl (q_E_go hE hS (q_freep (p4_H _ _ _ _) hD hS hA)) (p4_H _ _ _ _) (p4_H _ _ _ _).symm rfl rfl rfl hl.1 rfl (Nat.le_of_ble_eq_true rfl) dX3_swear_23 ⟨Nat.zero_le _, Nat.zero_le _⟩ (fun H locs hP hD hS => ?_)
  cases h
  exact x_retM C0 rfl hP hD hS dX3_swear_26

/-! QuarrelWays.pass (I)I -/
def f_X3_pass (t : TT) (hh : HH) (pp : PP) (a1 : Int32) : Option (Int32 × TT × HH) := ((f_X0_note hh t).bind fun x1 => ((f_X2_moveOn t a1).bind fun x3 => ((f_X0_keepUnlessError x1 x3.1).bind fun x5 => ((f_X3_isError x5.1).bind fun x7 => (if x7 = 0 then ((f_X2_dueQuarrels x3.2).bind fun x10 => ((f_J6_bitCount_0f7a4 x10).bind fun x12 => some (x12, x3.2, x5.2))) else some (x5.1, x3.2, x5.2))))))
abbrev rm_X3_pass : Room := { frames := 5, cells := 0, slots := 0, locals := 116 }
theorem hd_X3_pass : yX3_pass.cls = RX3 ∧ yX3_pass.cls ≠ "java/lang/invoke/MethodHandle" ∧ yX3_pass.cls ≠ "java/lang/invoke/VarHandle" ∧ (parseMethodDescriptor yX3_pass.desc).map (fun d => d.parameters.length) = some 1 := by decide +kernel
set_option maxHeartbeats 4000000 in
set_option maxRecDepth 100000 in
theorem c_X3_pass (l : Launch) (D : va_G) (cI cZ cT : ClassId) (G : q_G) (sz : Nat) (w sl : Nat) (o a : Nat) (t : TT) (hs hst : Nat) (ta ca : Nat → Nat) (hh : HH) (pd sg nm : Nat) (pp : PP) (a1 : Int32) (r : Int32 × TT × HH) (h : f_X3_pass t hh pp a1 = some r) : Met l yX3_pass (wq yX3_pass cX3_pass 3 (some .int)) rm_X3_pass (q_M D (q_tys cI cZ cT) sz ((wX w o hs pd sl) ++ (wT cI o a t) ++ (wH cI cT hs hst ta ca hh) ++ (wPd cI pd sg nm pp)) (q_E G (va_A ((wX w o hs pd sl) ++ (wT cI o a t) ++ (wH cI cT hs hst ta ca hh) ++ (wPd cI pd sg nm pp)) sz)) [.ref w, .int a1]) (va_Qi (fun r' _ => r' = r.1) (q_B D ((wX w o hs pd sl) ++ (wT cI o a t) ++ (wH cI cT hs hst ta ca hh) ++ (wPd cI pd sg nm pp)) sz ((wX w o hs pd sl) ++ (wT cI o a r.2.1) ++ (wH cI cT hs hst ta ca r.2.2) ++ (wPd cI pd sg nm pp))) (va_A ((wX w o hs pd sl) ++ (wT cI o a t) ++ (wH cI cT hs hst ta ca hh) ++ (wPd cI pd sg nm pp)) sz)) 0 0 (va_A ((wX w o hs pd sl) ++ (wT cI o a t) ++ (wH cI cT hs hst ta ca hh) ++ (wPd cI pd sg nm pp)) sz) := by
  refine q_MI (cc := cX3_pass) (maxL := 3) (ret := (some .int)) (E := fun sz => (q_E G (va_A ((wX w o hs pd sl) ++ (wT cI o a t) ++ (wH cI cT hs hst ta ca hh) ++ (wPd cI pd sg nm pp)) sz))) (Qc := fun sz => (va_Qi (fun r' _ => r' = r.1) (q_B D ((wX w o hs pd sl) ++ (wT cI o a t) ++ (wH cI cT hs hst ta ca hh) ++ (wPd cI pd sg nm pp)) sz ((wX w o hs pd sl) ++ (wT cI o a r.2.1) ++ (wH cI cT hs hst ta ca r.2.2) ++ (wPd cI pd sg nm pp))) (va_A ((wX w o hs pd sl) ++ (wT cI o a t) ++ (wH cI cT hs hst ta ca hh) ++ (wPd cI pd sg nm pp)) sz))) (free := fun sz => va_A ((wX w o hs pd sl) ++ (wT cI o a t) ++ (wH cI cT hs hst ta ca hh) ++ (wPd cI pd sg nm pp)) sz) (plainFor_of_name (by decide)) (Nat.le_of_ble_eq_true rfl) (fun p e s m below meth c C0 hname hP hK hD hE ls hl => ?_)
  have hA : ∀ q, s.heap.size ≤ q → (va_A ((wX w o hs pd sl) ++ (wT cI o a t) ++ (wH cI cT hs hst ta ca hh) ++ (wPd cI pd sg nm pp)) s.heap.size) q := fun _ => Or.inr
  have hS : va_S (va_A ((wX w o hs pd sl) ++ (wT cI o a t) ++ (wH cI cT hs hst ta ca hh) ++ (wPd cI pd sg nm pp)) s.heap.size) s.heap s.heap [] := va_S.rf
  have hE : q_E G (va_A ((wX w o hs pd sl) ++ (wT cI o a t) ++ (wH cI cT hs hst ta ca hh) ++ (wPd cI pd sg nm pp)) s.heap.size) s := hE
  have hl : lv_has ls 3 [(0, .ref w), (1, .int a1)] := hl
  obtain ⟨hx, hb, hr, hml, hown, hts, hlocks⟩ := id C0
  have hF : CallFix p m c cX3_pass 3 s _ BW RX3 := ⟨hx, hb, hml, hown, hts⟩
  rw [f_X3_pass] at h
  refine lv_aload_n hx hb dX3_pass_0 rfl (lv_at hl 0 rfl) ?_
  refine va_get (D := D) (v := .ref hs) (C := RX3) (T := TX3) (N := 4) hx hb hts iw_X3 hown hK hP 0 rfl rfl 1 (by decide) (hts _ mw_310) (fun _ h9 => h9) rfl dX3_pass_1 ?_
  refine lv_aload_n hx hb dX3_pass_4 rfl (lv_at hl 0 rfl) ?_
  refine va_get (D := D) (v := .ref o) (C := RX3) (T := TX3) (N := 4) hx hb hts iw_X3 hown hK hP 0 rfl rfl 0 (by decide) (hts _ mw_307) (fun _ h9 => h9) rfl dX3_pass_5 ?_
  obtain ⟨x1, h2, h⟩ := bE h
  refine x_VVNp (As := [.ref o]) (rest := []) (wr := (wX w o hs pd sl) ++ (wPd cI pd sg nm pp)) (W1 := (wX w o hs pd sl) ++ (wT cI o a t) ++ (wH cI cT hs hst ta ca x1) ++ (wPd cI pd sg nm pp)) hF (c_X0_note l D cI cZ cT G _ hs hst ta ca hh o a t  x1 h2) ⟨(va_cnB 1 hts (gq mw_47) rfl rfl rfl (nM_of hE 6 rfl) (hts _ mw_33) hd_X0_note.2 ⟨Nat.le_of_ble_eq_true rfl, Nat.le_of_ble_eq_true rfl⟩), hts _ mw_318, hts _ mw_319⟩ hK hP hD hS hA q_E_bl (q_E_go hE hS (q_freep (p4_HT _ _ _ _) hD hS hA)) (p4_HT _ _ _ _) (p4_HT _ _ _ _).symm rfl rfl rfl hl.1 rfl (Nat.le_of_ble_eq_true rfl) dX3_pass_8 ⟨Nat.zero_le _, Nat.zero_le _⟩ (fun H locs hP hD hS => ?_)
  refine lv_aload_n hx hb dX3_pass_11 rfl (lv_at hl 0 rfl) ?_
  refine va_get (D := D) (v := .ref hs) (C := RX3) (T := TX3) (N := 4) hx hb hts iw_X3 hown hK hP 0 rfl rfl 1 (by decide) (hts _ mw_310) (fun _ h9 => h9) rfl dX3_pass_12 ?_
  refine lv_aload_n hx hb dX3_pass_15 rfl (lv_at hl 0 rfl) ?_
  refine va_get (D := D) (v := .ref o) (C := RX3) (T := TX3) (N := 4) hx hb hts iw_X3 hown hK hP 0 rfl rfl 0 (by decide) (hts _ mw_307) (fun _ h9 => h9) rfl dX3_pass_16 ?_
  refine lv_iload_n hx hb dX3_pass_19 rfl (lv_at hl 1 rfl) ?_
  obtain ⟨x3, h4, h⟩ := bE h
  refine x_MVNp (As := [.int a1]) (rest := [.ref hs]) (wr := (wX w o hs pd sl) ++ (wH cI cT hs hst ta ca x1) ++ (wPd cI pd sg nm pp)) (W1 := (wX w o hs pd sl) ++ (wT cI o a x3.2) ++ (wH cI cT hs hst ta ca x1) ++ (wPd cI pd sg nm pp)) hF (c_X2_moveOn l D cI cZ cT _ o a t a1 x3 h4) ⟨(va_cnB 1 hts (gq mw_257) rfl rfl rfl (nM_of hE 16 rfl) (hts _ mw_15) hd_X2_moveOn.2 ⟨Nat.le_of_ble_eq_true rfl, Nat.le_of_ble_eq_true rfl⟩), hts _ mw_350, hts _ mw_351⟩ hK hP hD hS hA q_T_bl (fun _ _ _ => trivial) (p4_T _ _ _ _) (p4_T _ _ _ _).symm rfl rfl rfl hl.1 rfl (Nat.le_of_ble_eq_true rfl) dX3_pass_20 ⟨Nat.zero_le _, Nat.zero_le _⟩ (fun H locs hP hD hS => ?_)
  obtain ⟨x5, h6, h⟩ := bE h
  refine x_MVNp (As := [.int x3.1]) (rest := []) (wr := (wX w o hs pd sl) ++ (wT cI o a x3.2) ++ (wPd cI pd sg nm pp)) (W1 := (wX w o hs pd sl) ++ (wT cI o a x3.2) ++ (wH cI cT hs hst ta ca x5.2) ++ (wPd cI pd sg nm pp)) hF (c_X0_keepUnlessError l D cI cZ cT G _ hs hst ta ca x1 x3.1 x5 h6) ⟨(va_cnB 1 hts (gq mw_49) rfl rfl rfl (nM_of hE 8 rfl) (hts _ mw_33) hd_X0_keepUnlessError.2 ⟨Nat.le_of_ble_eq_true rfl, Nat.le_of_ble_eq_true rfl⟩), hts _ mw_322, hts _ mw_323⟩ hK hP hD hS hA q_E_bl (q_E_go hE hS (q_freep (p4_H _ _ _ _) hD hS hA)) (p4_H _ _ _ _) (p4_H _ _ _ _).symm rfl rfl rfl hl.1 rfl (Nat.le_of_ble_eq_true rfl) dX3_pass_23 ⟨Nat.zero_le _, Nat.zero_le _⟩ (fun H locs hP hD hS => ?_)
  refine lv_istore_n (lv' := [(2, .int x5.1), (0, .ref w), (1, .int a1)]) hx hb dX3_pass_26 rfl hl (by decide) rfl (fun ls hl => ?_)
  refine lv_iload_n hx hb dX3_pass_27 rfl (lv_at hl 0 rfl) ?_
  obtain ⟨x7, h8, h⟩ := bE h
  refine x_RS (As := [.int x5.1]) (rest := []) hF (c_X3_isError l D cI cZ cT  x5.1 x7 h8) (va_cwS 1 hts (gqS mw_352 mw_50 mw_51 mw_48) rfl rfl rfl hd_X3_isError.2 ⟨Nat.le_of_ble_eq_true rfl, Nat.le_of_ble_eq_true rfl⟩) hK hP q_T_bl (fun _ _ _ => trivial) [] rfl rfl hl.1 rfl (Nat.le_of_ble_eq_true rfl) dX3_pass_28 ⟨Nat.zero_le _, Nat.zero_le _⟩ ?_
  refine lv_if_eq (tgt := 38) hx hb dX3_pass_31 (by decide) (fun c9 => ?_) (fun c9 => ?_)
  · have h := xt c9 h
    refine lv_aload_n hx hb dX3_pass_38 rfl (lv_at hl 1 rfl) ?_
    refine va_get (D := D) (v := .ref o) (C := RX3) (T := TX3) (N := 4) hx hb hts iw_X3 hown hK hP 0 rfl rfl 0 (by decide) (hts _ mw_307) (fun _ h9 => h9) rfl dX3_pass_39 ?_
    obtain ⟨x10, h11, h⟩ := bE h
    refine x_RVN (As := []) (rest := []) hF (c_X2_dueQuarrels l D cI cZ cT o a x3.2  x10 h11) ⟨(va_cnB 0 hts (gq mw_293) rfl rfl rfl (nM_of hE 17 rfl) (hts _ mw_15) hd_X2_dueQuarrels.2 ⟨Nat.le_of_ble_eq_true rfl, Nat.le_of_ble_eq_true rfl⟩), hts _ mw_299, hts _ mw_300⟩ hK hP q_T_bl (fun _ _ _ => trivial) [1, 2] rfl rfl rfl rfl hl.1 rfl (Nat.le_of_ble_eq_true rfl) dX3_pass_42 ⟨Nat.zero_le _, Nat.zero_le _⟩ ?_
    obtain ⟨x12, h13, h⟩ := bE h
    refine x_RS (As := [.int x10]) (rest := []) hF (c_J6_bitCount_0f7a4 l D cI cZ cT  x10 x12 h13) (va_cwS 1 hts (gqS mw_353 mw_354 mw_355 mw_346) rfl rfl rfl hd_J6_bitCount_0f7a4.2 ⟨Nat.le_of_ble_eq_true rfl, Nat.le_of_ble_eq_true rfl⟩) hK hP q_T_bl (fun _ _ _ => trivial) [] rfl rfl hl.1 rfl (Nat.le_of_ble_eq_true rfl) dX3_pass_45 ⟨Nat.zero_le _, Nat.zero_le _⟩ ?_
    cases h
    exact x_retM C0 rfl hP hD hS dX3_pass_48
  · have h := xf c9 h
    refine lv_iload_n hx hb dX3_pass_34 rfl (lv_at hl 0 rfl) ?_
    refine lv_goto (tgt := 48) hx hb dX3_pass_35 (by decide) ?_
    cases h
    exact x_retM C0 rfl hP hD hS dX3_pass_48

/-! QuarrelWays.of (II)I -/
def f_X3_of (t : TT) (hh : HH) (pp : PP) (a1 : Int32) (a2 : Int32) : Option (Int32) := ((f_X2_tellPerson t a1 a2).bind fun x1 => some x1)
abbrev rm_X3_of : Room := { frames := 3, cells := 0, slots := 0, locals := 69 }
theorem hd_X3_of : yX3_of.cls = RX3 ∧ yX3_of.cls ≠ "java/lang/invoke/MethodHandle" ∧ yX3_of.cls ≠ "java/lang/invoke/VarHandle" ∧ (parseMethodDescriptor yX3_of.desc).map (fun d => d.parameters.length) = some 2 := by decide +kernel
set_option maxHeartbeats 4000000 in
set_option maxRecDepth 100000 in
theorem c_X3_of (l : Launch) (D : va_G) (cI cZ cT : ClassId) (G : q_G) (A : Nat → Prop) (w sl : Nat) (o a : Nat) (t : TT) (hs hst : Nat) (ta ca : Nat → Nat) (hh : HH) (pd sg nm : Nat) (pp : PP) (a1 : Int32) (a2 : Int32) (r : Int32) (h : f_X3_of t hh pp a1 a2 = some r) : Met l yX3_of (wq yX3_of cX3_of 3 (some .int)) rm_X3_of (q_R D (q_tys cI cZ cT) ((wX w o hs pd sl) ++ (wT cI o a t) ++ (wH cI cT hs hst ta ca hh) ++ (wPd cI pd sg nm pp)) (q_E G A) [.ref w, .int a1, .int a2]) (vp_Si (fun r' => r' = r)) 0 0 (fun _ => False) := by
  refine q_RI (cc := cX3_of) (maxL := 3) (ret := (some .int)) (plainFor_of_name (by decide)) (Nat.le_of_ble_eq_true rfl) (fun p e s m below meth c C0 hP hK hE ls hl => ?_)
  have hE : q_E G A s := hE
  have hS : va_S A s.heap s.heap [] := va_S.rf
  have hl : lv_has ls 3 [(0, .ref w), (1, .int a1), (2, .int a2)] := hl
  obtain ⟨hx, hb, hr, hml, hown, hts, hlocks⟩ := id C0
  have hF : CallFix p m c cX3_of 3 s _ BW RX3 := ⟨hx, hb, hml, hown, hts⟩
  rw [f_X3_of] at h
  refine lv_aload_n hx hb dX3_of_0 rfl (lv_at hl 0 rfl) ?_
  refine va_get (D := D) (v := .ref o) (C := RX3) (T := TX3) (N := 4) hx hb hts iw_X3 hown hK hP 0 rfl rfl 0 (by decide) (hts _ mw_307) (fun _ h9 => h9) rfl dX3_of_1 ?_
  refine lv_iload_n hx hb dX3_of_4 rfl (lv_at hl 1 rfl) ?_
  refine lv_iload_n hx hb dX3_of_5 rfl (lv_at hl 2 rfl) ?_
  obtain ⟨x1, h2, h⟩ := bE h
  refine x_RVN (As := [.int a1, .int a2]) (rest := []) hF (c_X2_tellPerson l D cI cZ cT o a t a1 a2 x1 h2) ⟨(va_cnB 2 hts (gq mw_279) rfl rfl rfl (nM_of hE 18 rfl) (hts _ mw_15) hd_X2_tellPerson.2 ⟨Nat.le_of_ble_eq_true rfl, Nat.le_of_ble_eq_true rfl⟩), hts _ mw_357, hts _ mw_358⟩ hK hP q_T_bl (fun _ _ _ => trivial) [1, 2] rfl rfl rfl rfl hl.1 rfl (Nat.le_of_ble_eq_true rfl) dX3_of_6 ⟨Nat.zero_le _, Nat.zero_le _⟩ ?_
  cases h
  exact x_retR C0 rfl dX3_of_9

/-! QuarrelWays.quarrel (II)I -/
def f_X3_quarrel (t : TT) (hh : HH) (pp : PP) (a1 : Int32) (a2 : Int32) : Option (Int32) := ((f_X2_tellQuarrel t a1 a2).bind fun x1 => some x1)
abbrev rm_X3_quarrel : Room := { frames := 5, cells := 0, slots := 0, locals := 116 }
theorem hd_X3_quarrel : yX3_quarrel.cls = RX3 ∧ yX3_quarrel.cls ≠ "java/lang/invoke/MethodHandle" ∧ yX3_quarrel.cls ≠ "java/lang/invoke/VarHandle" ∧ (parseMethodDescriptor yX3_quarrel.desc).map (fun d => d.parameters.length) = some 2 := by decide +kernel
set_option maxHeartbeats 4000000 in
set_option maxRecDepth 100000 in
theorem c_X3_quarrel (l : Launch) (D : va_G) (cI cZ cT : ClassId) (G : q_G) (A : Nat → Prop) (w sl : Nat) (o a : Nat) (t : TT) (hs hst : Nat) (ta ca : Nat → Nat) (hh : HH) (pd sg nm : Nat) (pp : PP) (a1 : Int32) (a2 : Int32) (r : Int32) (h : f_X3_quarrel t hh pp a1 a2 = some r) : Met l yX3_quarrel (wq yX3_quarrel cX3_quarrel 3 (some .int)) rm_X3_quarrel (q_R D (q_tys cI cZ cT) ((wX w o hs pd sl) ++ (wT cI o a t) ++ (wH cI cT hs hst ta ca hh) ++ (wPd cI pd sg nm pp)) (q_E G A) [.ref w, .int a1, .int a2]) (vp_Si (fun r' => r' = r)) 0 0 (fun _ => False) := by
  refine q_RI (cc := cX3_quarrel) (maxL := 3) (ret := (some .int)) (plainFor_of_name (by decide)) (Nat.le_of_ble_eq_true rfl) (fun p e s m below meth c C0 hP hK hE ls hl => ?_)
  have hE : q_E G A s := hE
  have hS : va_S A s.heap s.heap [] := va_S.rf
  have hl : lv_has ls 3 [(0, .ref w), (1, .int a1), (2, .int a2)] := hl
  obtain ⟨hx, hb, hr, hml, hown, hts, hlocks⟩ := id C0
  have hF : CallFix p m c cX3_quarrel 3 s _ BW RX3 := ⟨hx, hb, hml, hown, hts⟩
  rw [f_X3_quarrel] at h
  refine lv_aload_n hx hb dX3_quarrel_0 rfl (lv_at hl 0 rfl) ?_
  refine va_get (D := D) (v := .ref o) (C := RX3) (T := TX3) (N := 4) hx hb hts iw_X3 hown hK hP 0 rfl rfl 0 (by decide) (hts _ mw_307) (fun _ h9 => h9) rfl dX3_quarrel_1 ?_
  refine lv_iload_n hx hb dX3_quarrel_4 rfl (lv_at hl 1 rfl) ?_
  refine lv_iload_n hx hb dX3_quarrel_5 rfl (lv_at hl 2 rfl) ?_
  obtain ⟨x1, h2, h⟩ := bE h
  refine x_RVN (As := [.int a1, .int a2]) (rest := []) hF (c_X2_tellQuarrel l D cI cZ cT o a t a1 a2 x1 h2) ⟨(va_cnB 2 hts (gq mw_280) rfl rfl rfl (nM_of hE 19 rfl) (hts _ mw_15) hd_X2_tellQuarrel.2 ⟨Nat.le_of_ble_eq_true rfl, Nat.le_of_ble_eq_true rfl⟩), hts _ mw_360, hts _ mw_361⟩ hK hP q_T_bl (fun _ _ _ => trivial) [1, 2] rfl rfl rfl rfl hl.1 rfl (Nat.le_of_ble_eq_true rfl) dX3_quarrel_6 ⟨Nat.zero_le _, Nat.zero_le _⟩ ?_
  cases h
  exact x_retR C0 rfl dX3_quarrel_9

/-! QuarrelWays.record (II)I -/
def f_X3_record (t : TT) (hh : HH) (pp : PP) (a1 : Int32) (a2 : Int32) : Option (Int32) := ((f_X2_tellEvent t a1 a2).bind fun x1 => some x1)
abbrev rm_X3_record : Room := { frames := 2, cells := 0, slots := 0, locals := 47 }
theorem hd_X3_record : yX3_record.cls = RX3 ∧ yX3_record.cls ≠ "java/lang/invoke/MethodHandle" ∧ yX3_record.cls ≠ "java/lang/invoke/VarHandle" ∧ (parseMethodDescriptor yX3_record.desc).map (fun d => d.parameters.length) = some 2 := by decide +kernel
set_option maxHeartbeats 4000000 in
set_option maxRecDepth 100000 in
theorem c_X3_record (l : Launch) (D : va_G) (cI cZ cT : ClassId) (G : q_G) (A : Nat → Prop) (w sl : Nat) (o a : Nat) (t : TT) (hs hst : Nat) (ta ca : Nat → Nat) (hh : HH) (pd sg nm : Nat) (pp : PP) (a1 : Int32) (a2 : Int32) (r : Int32) (h : f_X3_record t hh pp a1 a2 = some r) : Met l yX3_record (wq yX3_record cX3_record 3 (some .int)) rm_X3_record (q_R D (q_tys cI cZ cT) ((wX w o hs pd sl) ++ (wT cI o a t) ++ (wH cI cT hs hst ta ca hh) ++ (wPd cI pd sg nm pp)) (q_E G A) [.ref w, .int a1, .int a2]) (vp_Si (fun r' => r' = r)) 0 0 (fun _ => False) := by
  refine q_RI (cc := cX3_record) (maxL := 3) (ret := (some .int)) (plainFor_of_name (by decide)) (Nat.le_of_ble_eq_true rfl) (fun p e s m below meth c C0 hP hK hE ls hl => ?_)
  have hE : q_E G A s := hE
  have hS : va_S A s.heap s.heap [] := va_S.rf
  have hl : lv_has ls 3 [(0, .ref w), (1, .int a1), (2, .int a2)] := hl
  obtain ⟨hx, hb, hr, hml, hown, hts, hlocks⟩ := id C0
  have hF : CallFix p m c cX3_record 3 s _ BW RX3 := ⟨hx, hb, hml, hown, hts⟩
  rw [f_X3_record] at h
  refine lv_aload_n hx hb dX3_record_0 rfl (lv_at hl 0 rfl) ?_
  refine va_get (D := D) (v := .ref o) (C := RX3) (T := TX3) (N := 4) hx hb hts iw_X3 hown hK hP 0 rfl rfl 0 (by decide) (hts _ mw_307) (fun _ h9 => h9) rfl dX3_record_1 ?_
  refine lv_iload_n hx hb dX3_record_4 rfl (lv_at hl 1 rfl) ?_
  refine lv_iload_n hx hb dX3_record_5 rfl (lv_at hl 2 rfl) ?_
  obtain ⟨x1, h2, h⟩ := bE h
  refine x_RVN (As := [.int a1, .int a2]) (rest := []) hF (c_X2_tellEvent l D cI cZ cT o a t a1 a2 x1 h2) ⟨(va_cnB 2 hts (gq mw_281) rfl rfl rfl (nM_of hE 20 rfl) (hts _ mw_15) hd_X2_tellEvent.2 ⟨Nat.le_of_ble_eq_true rfl, Nat.le_of_ble_eq_true rfl⟩), hts _ mw_364, hts _ mw_365⟩ hK hP q_T_bl (fun _ _ _ => trivial) [1, 2] rfl rfl rfl rfl hl.1 rfl (Nat.le_of_ble_eq_true rfl) dX3_record_6 ⟨Nat.zero_le _, Nat.zero_le _⟩ ?_
  cases h
  exact x_retR C0 rfl dX3_record_9

/-! QuarrelWays.pressing (I)I -/
def f_X3_pressing (t : TT) (hh : HH) (pp : PP) (a1 : Int32) : Option (Int32) := ((f_X2_quarrelThatPresses t a1).bind fun x1 => some x1)
abbrev rm_X3_pressing : Room := { frames := 5, cells := 0, slots := 0, locals := 111 }
theorem hd_X3_pressing : yX3_pressing.cls = RX3 ∧ yX3_pressing.cls ≠ "java/lang/invoke/MethodHandle" ∧ yX3_pressing.cls ≠ "java/lang/invoke/VarHandle" ∧ (parseMethodDescriptor yX3_pressing.desc).map (fun d => d.parameters.length) = some 1 := by decide +kernel
set_option maxHeartbeats 4000000 in
set_option maxRecDepth 100000 in
theorem c_X3_pressing (l : Launch) (D : va_G) (cI cZ cT : ClassId) (G : q_G) (A : Nat → Prop) (w sl : Nat) (o a : Nat) (t : TT) (hs hst : Nat) (ta ca : Nat → Nat) (hh : HH) (pd sg nm : Nat) (pp : PP) (a1 : Int32) (r : Int32) (h : f_X3_pressing t hh pp a1 = some r) : Met l yX3_pressing (wq yX3_pressing cX3_pressing 2 (some .int)) rm_X3_pressing (q_R D (q_tys cI cZ cT) ((wX w o hs pd sl) ++ (wT cI o a t) ++ (wH cI cT hs hst ta ca hh) ++ (wPd cI pd sg nm pp)) (q_E G A) [.ref w, .int a1]) (vp_Si (fun r' => r' = r)) 0 0 (fun _ => False) := by
  refine q_RI (cc := cX3_pressing) (maxL := 2) (ret := (some .int)) (plainFor_of_name (by decide)) (Nat.le_of_ble_eq_true rfl) (fun p e s m below meth c C0 hP hK hE ls hl => ?_)
  have hE : q_E G A s := hE
  have hS : va_S A s.heap s.heap [] := va_S.rf
  have hl : lv_has ls 2 [(0, .ref w), (1, .int a1)] := hl
  obtain ⟨hx, hb, hr, hml, hown, hts, hlocks⟩ := id C0
  have hF : CallFix p m c cX3_pressing 2 s _ BW RX3 := ⟨hx, hb, hml, hown, hts⟩
  rw [f_X3_pressing] at h
  refine lv_aload_n hx hb dX3_pressing_0 rfl (lv_at hl 0 rfl) ?_
  refine va_get (D := D) (v := .ref o) (C := RX3) (T := TX3) (N := 4) hx hb hts iw_X3 hown hK hP 0 rfl rfl 0 (by decide) (hts _ mw_307) (fun _ h9 => h9) rfl dX3_pressing_1 ?_
  refine lv_iload_n hx hb dX3_pressing_4 rfl (lv_at hl 1 rfl) ?_
  obtain ⟨x1, h2, h⟩ := bE h
  refine x_RVN (As := [.int a1]) (rest := []) hF (c_X2_quarrelThatPresses l D cI cZ cT o a t a1 x1 h2) ⟨(va_cnB 1 hts (gq mw_287) rfl rfl rfl (nM_of hE 21 rfl) (hts _ mw_15) hd_X2_quarrelThatPresses.2 ⟨Nat.le_of_ble_eq_true rfl, Nat.le_of_ble_eq_true rfl⟩), hts _ mw_366, hts _ mw_367⟩ hK hP q_T_bl (fun _ _ _ => trivial) [1, 2] rfl rfl rfl rfl hl.1 rfl (Nat.le_of_ble_eq_true rfl) dX3_pressing_5 ⟨Nat.zero_le _, Nat.zero_le _⟩ ?_
  cases h
  exact x_retR C0 rfl dX3_pressing_8

/-! QuarrelWays.insults (I)I -/
def f_X3_insults (t : TT) (hh : HH) (pp : PP) (a1 : Int32) : Option (Int32) := ((f_X2_insultsFrom t a1).bind fun x1 => some x1)
abbrev rm_X3_insults : Room := { frames := 2, cells := 0, slots := 0, locals := 46 }
theorem hd_X3_insults : yX3_insults.cls = RX3 ∧ yX3_insults.cls ≠ "java/lang/invoke/MethodHandle" ∧ yX3_insults.cls ≠ "java/lang/invoke/VarHandle" ∧ (parseMethodDescriptor yX3_insults.desc).map (fun d => d.parameters.length) = some 1 := by decide +kernel
set_option maxHeartbeats 4000000 in
set_option maxRecDepth 100000 in
theorem c_X3_insults (l : Launch) (D : va_G) (cI cZ cT : ClassId) (G : q_G) (A : Nat → Prop) (w sl : Nat) (o a : Nat) (t : TT) (hs hst : Nat) (ta ca : Nat → Nat) (hh : HH) (pd sg nm : Nat) (pp : PP) (a1 : Int32) (r : Int32) (h : f_X3_insults t hh pp a1 = some r) : Met l yX3_insults (wq yX3_insults cX3_insults 2 (some .int)) rm_X3_insults (q_R D (q_tys cI cZ cT) ((wX w o hs pd sl) ++ (wT cI o a t) ++ (wH cI cT hs hst ta ca hh) ++ (wPd cI pd sg nm pp)) (q_E G A) [.ref w, .int a1]) (vp_Si (fun r' => r' = r)) 0 0 (fun _ => False) := by
  refine q_RI (cc := cX3_insults) (maxL := 2) (ret := (some .int)) (plainFor_of_name (by decide)) (Nat.le_of_ble_eq_true rfl) (fun p e s m below meth c C0 hP hK hE ls hl => ?_)
  have hE : q_E G A s := hE
  have hS : va_S A s.heap s.heap [] := va_S.rf
  have hl : lv_has ls 2 [(0, .ref w), (1, .int a1)] := hl
  obtain ⟨hx, hb, hr, hml, hown, hts, hlocks⟩ := id C0
  have hF : CallFix p m c cX3_insults 2 s _ BW RX3 := ⟨hx, hb, hml, hown, hts⟩
  rw [f_X3_insults] at h
  refine lv_aload_n hx hb dX3_insults_0 rfl (lv_at hl 0 rfl) ?_
  refine va_get (D := D) (v := .ref o) (C := RX3) (T := TX3) (N := 4) hx hb hts iw_X3 hown hK hP 0 rfl rfl 0 (by decide) (hts _ mw_307) (fun _ h9 => h9) rfl dX3_insults_1 ?_
  refine lv_iload_n hx hb dX3_insults_4 rfl (lv_at hl 1 rfl) ?_
  obtain ⟨x1, h2, h⟩ := bE h
  refine x_RVN (As := [.int a1]) (rest := []) hF (c_X2_insultsFrom l D cI cZ cT o a t a1 x1 h2) ⟨(va_cnB 1 hts (gq mw_291) rfl rfl rfl (nM_of hE 22 rfl) (hts _ mw_15) hd_X2_insultsFrom.2 ⟨Nat.le_of_ble_eq_true rfl, Nat.le_of_ble_eq_true rfl⟩), hts _ mw_370, hts _ mw_371⟩ hK hP q_T_bl (fun _ _ _ => trivial) [1, 2] rfl rfl rfl rfl hl.1 rfl (Nat.le_of_ble_eq_true rfl) dX3_insults_5 ⟨Nat.zero_le _, Nat.zero_le _⟩ ?_
  cases h
  exact x_retR C0 rfl dX3_insults_8

/-! QuarrelWays.count (I)I -/
def f_X3_count (t : TT) (hh : HH) (pp : PP) (a1 : Int32) : Option (Int32) := (if a1 = (13 : Int32) then some pp.2.1 else (if a1 = (14 : Int32) then some hh.2.1 else ((f_X2_tellNumber t a1).bind fun x3 => some x3)))
abbrev rm_X3_count : Room := { frames := 6, cells := 0, slots := 0, locals := 137 }
theorem hd_X3_count : yX3_count.cls = RX3 ∧ yX3_count.cls ≠ "java/lang/invoke/MethodHandle" ∧ yX3_count.cls ≠ "java/lang/invoke/VarHandle" ∧ (parseMethodDescriptor yX3_count.desc).map (fun d => d.parameters.length) = some 1 := by decide +kernel
set_option maxHeartbeats 4000000 in
set_option maxRecDepth 100000 in
theorem c_X3_count (l : Launch) (D : va_G) (cI cZ cT : ClassId) (G : q_G) (A : Nat → Prop) (w sl : Nat) (o a : Nat) (t : TT) (hs hst : Nat) (ta ca : Nat → Nat) (hh : HH) (pd sg nm : Nat) (pp : PP) (a1 : Int32) (r : Int32) (h : f_X3_count t hh pp a1 = some r) : Met l yX3_count (wq yX3_count cX3_count 2 (some .int)) rm_X3_count (q_R D (q_tys cI cZ cT) ((wX w o hs pd sl) ++ (wT cI o a t) ++ (wH cI cT hs hst ta ca hh) ++ (wPd cI pd sg nm pp)) (q_E G A) [.ref w, .int a1]) (vp_Si (fun r' => r' = r)) 0 0 (fun _ => False) := by
  refine q_RI (cc := cX3_count) (maxL := 2) (ret := (some .int)) (plainFor_of_name (by decide)) (Nat.le_of_ble_eq_true rfl) (fun p e s m below meth c C0 hP hK hE ls hl => ?_)
  have hE : q_E G A s := hE
  have hS : va_S A s.heap s.heap [] := va_S.rf
  have hl : lv_has ls 2 [(0, .ref w), (1, .int a1)] := hl
  obtain ⟨hx, hb, hr, hml, hown, hts, hlocks⟩ := id C0
  have hF : CallFix p m c cX3_count 2 s _ BW RX3 := ⟨hx, hb, hml, hown, hts⟩
  rw [f_X3_count] at h
  refine lv_iload_n hx hb dX3_count_0 rfl (lv_at hl 1 rfl) ?_
  refine lv_bipush (v := 13) hx hb dX3_count_1 (by decide) ?_
  refine lv_icmp_ne (tgt := 14) hx hb dX3_count_3 (by decide) (fun c1 => ?_) (fun c1 => ?_)
  · have h := xf c1 h
    refine lv_iload_n hx hb dX3_count_14 rfl (lv_at hl 1 rfl) ?_
    refine lv_bipush (v := 14) hx hb dX3_count_15 (by decide) ?_
    refine lv_icmp_ne (tgt := 28) hx hb dX3_count_17 (by decide) (fun c2 => ?_) (fun c2 => ?_)
    · have h := xf c2 h
      refine lv_aload_n hx hb dX3_count_28 rfl (lv_at hl 0 rfl) ?_
      refine va_get (D := D) (v := .ref o) (C := RX3) (T := TX3) (N := 4) hx hb hts iw_X3 hown hK hP 0 rfl rfl 0 (by decide) (hts _ mw_307) (fun _ h9 => h9) rfl dX3_count_29 ?_
      refine lv_iload_n hx hb dX3_count_32 rfl (lv_at hl 1 rfl) ?_
      obtain ⟨x3, h4, h⟩ := bE h
      refine x_RVN (As := [.int a1]) (rest := []) hF (c_X2_tellNumber l D cI cZ cT o a t a1 x3 h4) ⟨(va_cnB 1 hts (gq mw_304) rfl rfl rfl (nM_of hE 23 rfl) (hts _ mw_15) hd_X2_tellNumber.2 ⟨Nat.le_of_ble_eq_true rfl, Nat.le_of_ble_eq_true rfl⟩), hts _ mw_372, hts _ mw_373⟩ hK hP q_T_bl (fun _ _ _ => trivial) [1, 2] rfl rfl rfl rfl hl.1 rfl (Nat.le_of_ble_eq_true rfl) dX3_count_33 ⟨Nat.zero_le _, Nat.zero_le _⟩ ?_
      cases h
      exact x_retR C0 rfl dX3_count_36
    · have h := xt c2 h
      refine lv_aload_n hx hb dX3_count_20 rfl (lv_at hl 0 rfl) ?_
      refine va_get (D := D) (v := .ref hs) (C := RX3) (T := TX3) (N := 4) hx hb hts iw_X3 hown hK hP 0 rfl rfl 1 (by decide) (hts _ mw_310) (fun _ h9 => h9) rfl dX3_count_21 ?_
      refine va_getN (D := D) (v := .int hh.2.1) (C := RX0) (T := TX0) (N := 3) hx hb hts iw_X0 hown hK hP 3 rfl rfl 2 (by decide) (nF_of hE 1 rfl) (fun _ h9 => h9) rfl dX3_count_24 ?_
      cases h
      exact x_retR C0 rfl dX3_count_27
  · have h := xt c1 h
    refine lv_aload_n hx hb dX3_count_6 rfl (lv_at hl 0 rfl) ?_
    refine va_get (D := D) (v := .ref pd) (C := RX3) (T := TX3) (N := 4) hx hb hts iw_X3 hown hK hP 0 rfl rfl 2 (by decide) (hts _ mw_313) (fun _ h9 => h9) rfl dX3_count_7 ?_
    refine va_getN (D := D) (v := .int pp.2.1) (C := RX1) (T := TX1) (N := 6) hx hb hts iw_X1 hown hK hP 19 rfl rfl 1 (by decide) (nF_of hE 0 rfl) (fun _ h9 => h9) rfl dX3_count_10 ?_
    cases h
    exact x_retR C0 rfl dX3_count_13

/-! QuarrelWays.why (I)I -/
def f_X3_why (t : TT) (hh : HH) (pp : PP) (a1 : Int32) : Option (Int32) := ((f_X2_hasQuarrel t a1).bind fun x1 => (if x1 = 0 then some (-1 : Int32) else ((f_X2_waysOf t a1).bind fun x4 => ((f_X2_whyNotDue t a1 x4).bind fun x6 => some x6))))
abbrev rm_X3_why : Room := { frames := 4, cells := 0, slots := 0, locals := 94 }
theorem hd_X3_why : yX3_why.cls = RX3 ∧ yX3_why.cls ≠ "java/lang/invoke/MethodHandle" ∧ yX3_why.cls ≠ "java/lang/invoke/VarHandle" ∧ (parseMethodDescriptor yX3_why.desc).map (fun d => d.parameters.length) = some 1 := by decide +kernel
set_option maxHeartbeats 4000000 in
set_option maxRecDepth 100000 in
theorem c_X3_why (l : Launch) (D : va_G) (cI cZ cT : ClassId) (G : q_G) (A : Nat → Prop) (w sl : Nat) (o a : Nat) (t : TT) (hs hst : Nat) (ta ca : Nat → Nat) (hh : HH) (pd sg nm : Nat) (pp : PP) (a1 : Int32) (r : Int32) (h : f_X3_why t hh pp a1 = some r) : Met l yX3_why (wq yX3_why cX3_why 2 (some .int)) rm_X3_why (q_R D (q_tys cI cZ cT) ((wX w o hs pd sl) ++ (wT cI o a t) ++ (wH cI cT hs hst ta ca hh) ++ (wPd cI pd sg nm pp)) (q_E G A) [.ref w, .int a1]) (vp_Si (fun r' => r' = r)) 0 0 (fun _ => False) := by
  refine q_RI (cc := cX3_why) (maxL := 2) (ret := (some .int)) (plainFor_of_name (by decide)) (Nat.le_of_ble_eq_true rfl) (fun p e s m below meth c C0 hP hK hE ls hl => ?_)
  have hE : q_E G A s := hE
  have hS : va_S A s.heap s.heap [] := va_S.rf
  have hl : lv_has ls 2 [(0, .ref w), (1, .int a1)] := hl
  obtain ⟨hx, hb, hr, hml, hown, hts, hlocks⟩ := id C0
  have hF : CallFix p m c cX3_why 2 s _ BW RX3 := ⟨hx, hb, hml, hown, hts⟩
  rw [f_X3_why] at h
  refine lv_aload_n hx hb dX3_why_0 rfl (lv_at hl 0 rfl) ?_
  refine va_get (D := D) (v := .ref o) (C := RX3) (T := TX3) (N := 4) hx hb hts iw_X3 hown hK hP 0 rfl rfl 0 (by decide) (hts _ mw_307) (fun _ h9 => h9) rfl dX3_why_1 ?_
  refine lv_iload_n hx hb dX3_why_4 rfl (lv_at hl 1 rfl) ?_
  obtain ⟨x1, h2, h⟩ := bE h
  refine x_RVN (As := [.int a1]) (rest := []) hF (c_X2_hasQuarrel l D cI cZ cT o a t a1 x1 h2) ⟨(va_cnB 1 hts (gq mw_155) rfl rfl rfl (nM_of hE 24 rfl) (hts _ mw_15) hd_X2_hasQuarrel.2 ⟨Nat.le_of_ble_eq_true rfl, Nat.le_of_ble_eq_true rfl⟩), hts _ mw_227, hts _ mw_228⟩ hK hP q_T_bl (fun _ _ _ => trivial) [1, 2] rfl rfl rfl rfl hl.1 rfl (Nat.le_of_ble_eq_true rfl) dX3_why_5 ⟨Nat.zero_le _, Nat.zero_le _⟩ ?_
  refine lv_if_eq (tgt := 30) hx hb dX3_why_8 (by decide) (fun c3 => ?_) (fun c3 => ?_)
  · have h := xt c3 h
    refine lv_iconst (v := (-1)) hx hb dX3_why_30 (by decide) ?_
    cases h
    exact x_retR C0 rfl dX3_why_31
  · have h := xf c3 h
    refine lv_aload_n hx hb dX3_why_11 rfl (lv_at hl 0 rfl) ?_
    refine va_get (D := D) (v := .ref o) (C := RX3) (T := TX3) (N := 4) hx hb hts iw_X3 hown hK hP 0 rfl rfl 0 (by decide) (hts _ mw_307) (fun _ h9 => h9) rfl dX3_why_12 ?_
    refine lv_iload_n hx hb dX3_why_15 rfl (lv_at hl 1 rfl) ?_
    refine lv_aload_n hx hb dX3_why_16 rfl (lv_at hl 0 rfl) ?_
    refine va_get (D := D) (v := .ref o) (C := RX3) (T := TX3) (N := 4) hx hb hts iw_X3 hown hK hP 0 rfl rfl 0 (by decide) (hts _ mw_307) (fun _ h9 => h9) rfl dX3_why_17 ?_
    refine lv_iload_n hx hb dX3_why_20 rfl (lv_at hl 1 rfl) ?_
    obtain ⟨x4, h5, h⟩ := bE h
    refine x_RVN (As := [.int a1]) (rest := [.int a1, .ref o]) hF (c_X2_waysOf l D cI cZ cT o a t a1 x4 h5) ⟨(va_cnB 1 hts (gq mw_223) rfl rfl rfl (nM_of hE 25 rfl) (hts _ mw_15) hd_X2_waysOf.2 ⟨Nat.le_of_ble_eq_true rfl, Nat.le_of_ble_eq_true rfl⟩), hts _ mw_230, hts _ mw_231⟩ hK hP q_T_bl (fun _ _ _ => trivial) [1, 2] rfl rfl rfl rfl hl.1 rfl (Nat.le_of_ble_eq_true rfl) dX3_why_21 ⟨Nat.zero_le _, Nat.zero_le _⟩ ?_
    obtain ⟨x6, h7, h⟩ := bE h
    refine x_RVN (As := [.int a1, .int x4]) (rest := []) hF (c_X2_whyNotDue l D cI cZ cT o a t a1 x4 x6 h7) ⟨(va_cnB 2 hts (gq mw_239) rfl rfl rfl (nM_of hE 26 rfl) (hts _ mw_15) hd_X2_whyNotDue.2 ⟨Nat.le_of_ble_eq_true rfl, Nat.le_of_ble_eq_true rfl⟩), hts _ mw_247, hts _ mw_248⟩ hK hP q_T_bl (fun _ _ _ => trivial) [1, 2] rfl rfl rfl rfl hl.1 rfl (Nat.le_of_ble_eq_true rfl) dX3_why_24 ⟨Nat.zero_le _, Nat.zero_le _⟩ ?_
    refine lv_goto (tgt := 31) hx hb dX3_why_27 (by decide) ?_
    cases h
    exact x_retR C0 rfl dX3_why_31

/-! QuarrelWays.firstWay (I)I -/
def f_X3_firstWay (t : TT) (hh : HH) (pp : PP) (a1 : Int32) : Option (Int32) := ((f_X2_hasQuarrel t a1).bind fun x1 => (if x1 = 0 then some (-1 : Int32) else ((f_X2_waysOf t a1).bind fun x4 => ((f_X2_firstOf x4).bind fun x6 => some x6))))
abbrev rm_X3_firstWay : Room := { frames := 4, cells := 0, slots := 0, locals := 94 }
theorem hd_X3_firstWay : yX3_firstWay.cls = RX3 ∧ yX3_firstWay.cls ≠ "java/lang/invoke/MethodHandle" ∧ yX3_firstWay.cls ≠ "java/lang/invoke/VarHandle" ∧ (parseMethodDescriptor yX3_firstWay.desc).map (fun d => d.parameters.length) = some 1 := by decide +kernel
set_option maxHeartbeats 4000000 in
set_option maxRecDepth 100000 in
theorem c_X3_firstWay (l : Launch) (D : va_G) (cI cZ cT : ClassId) (G : q_G) (A : Nat → Prop) (w sl : Nat) (o a : Nat) (t : TT) (hs hst : Nat) (ta ca : Nat → Nat) (hh : HH) (pd sg nm : Nat) (pp : PP) (a1 : Int32) (r : Int32) (h : f_X3_firstWay t hh pp a1 = some r) : Met l yX3_firstWay (wq yX3_firstWay cX3_firstWay 2 (some .int)) rm_X3_firstWay (q_R D (q_tys cI cZ cT) ((wX w o hs pd sl) ++ (wT cI o a t) ++ (wH cI cT hs hst ta ca hh) ++ (wPd cI pd sg nm pp)) (q_E G A) [.ref w, .int a1]) (vp_Si (fun r' => r' = r)) 0 0 (fun _ => False) := by
  refine q_RI (cc := cX3_firstWay) (maxL := 2) (ret := (some .int)) (plainFor_of_name (by decide)) (Nat.le_of_ble_eq_true rfl) (fun p e s m below meth c C0 hP hK hE ls hl => ?_)
  have hE : q_E G A s := hE
  have hS : va_S A s.heap s.heap [] := va_S.rf
  have hl : lv_has ls 2 [(0, .ref w), (1, .int a1)] := hl
  obtain ⟨hx, hb, hr, hml, hown, hts, hlocks⟩ := id C0
  have hF : CallFix p m c cX3_firstWay 2 s _ BW RX3 := ⟨hx, hb, hml, hown, hts⟩
  rw [f_X3_firstWay] at h
  refine lv_aload_n hx hb dX3_firstWay_0 rfl (lv_at hl 0 rfl) ?_
  refine va_get (D := D) (v := .ref o) (C := RX3) (T := TX3) (N := 4) hx hb hts iw_X3 hown hK hP 0 rfl rfl 0 (by decide) (hts _ mw_307) (fun _ h9 => h9) rfl dX3_firstWay_1 ?_
  refine lv_iload_n hx hb dX3_firstWay_4 rfl (lv_at hl 1 rfl) ?_
  obtain ⟨x1, h2, h⟩ := bE h
  refine x_RVN (As := [.int a1]) (rest := []) hF (c_X2_hasQuarrel l D cI cZ cT o a t a1 x1 h2) ⟨(va_cnB 1 hts (gq mw_155) rfl rfl rfl (nM_of hE 24 rfl) (hts _ mw_15) hd_X2_hasQuarrel.2 ⟨Nat.le_of_ble_eq_true rfl, Nat.le_of_ble_eq_true rfl⟩), hts _ mw_227, hts _ mw_228⟩ hK hP q_T_bl (fun _ _ _ => trivial) [1, 2] rfl rfl rfl rfl hl.1 rfl (Nat.le_of_ble_eq_true rfl) dX3_firstWay_5 ⟨Nat.zero_le _, Nat.zero_le _⟩ ?_
  refine lv_if_eq (tgt := 25) hx hb dX3_firstWay_8 (by decide) (fun c3 => ?_) (fun c3 => ?_)
  · have h := xt c3 h
    refine lv_iconst (v := (-1)) hx hb dX3_firstWay_25 (by decide) ?_
    cases h
    exact x_retR C0 rfl dX3_firstWay_26
  · have h := xf c3 h
    refine lv_aload_n hx hb dX3_firstWay_11 rfl (lv_at hl 0 rfl) ?_
    refine va_get (D := D) (v := .ref o) (C := RX3) (T := TX3) (N := 4) hx hb hts iw_X3 hown hK hP 0 rfl rfl 0 (by decide) (hts _ mw_307) (fun _ h9 => h9) rfl dX3_firstWay_12 ?_
    refine lv_iload_n hx hb dX3_firstWay_15 rfl (lv_at hl 1 rfl) ?_
    obtain ⟨x4, h5, h⟩ := bE h
    refine x_RVN (As := [.int a1]) (rest := []) hF (c_X2_waysOf l D cI cZ cT o a t a1 x4 h5) ⟨(va_cnB 1 hts (gq mw_223) rfl rfl rfl (nM_of hE 25 rfl) (hts _ mw_15) hd_X2_waysOf.2 ⟨Nat.le_of_ble_eq_true rfl, Nat.le_of_ble_eq_true rfl⟩), hts _ mw_230, hts _ mw_231⟩ hK hP q_T_bl (fun _ _ _ => trivial) [1, 2] rfl rfl rfl rfl hl.1 rfl (Nat.le_of_ble_eq_true rfl) dX3_firstWay_16 ⟨Nat.zero_le _, Nat.zero_le _⟩ ?_
    obtain ⟨x6, h7, h⟩ := bE h
    refine x_RSN (As := [.int x4]) (rest := []) hF (c_X2_firstOf l D cI cZ cT  x4 x6 h7) ⟨(va_cnB 1 hts (gq mw_258) rfl rfl rfl (nM_of hE 27 rfl) (hts _ mw_15) hd_X2_firstOf.2 ⟨Nat.le_of_ble_eq_true rfl, Nat.le_of_ble_eq_true rfl⟩), hts _ mw_376, trivial⟩ hK hP q_T_bl (fun _ _ _ => trivial) [] rfl rfl hl.1 rfl (Nat.le_of_ble_eq_true rfl) dX3_firstWay_19 ⟨Nat.zero_le _, Nat.zero_le _⟩ ?_
    refine lv_goto (tgt := 26) hx hb dX3_firstWay_22 (by decide) ?_
    cases h
    exact x_retR C0 rfl dX3_firstWay_26

/-! QuarrelWays.opensIn (I)I -/
def f_X3_opensIn (t : TT) (hh : HH) (pp : PP) (a1 : Int32) : Option (Int32) := ((f_X2_hasQuarrel t a1).bind fun x1 => (if x1 = 0 then some (-1 : Int32) else ((f_X2_isOpen t a1).bind fun x4 => (if x4 = 0 then some (-5 : Int32) else ((f_X2_hoursUntilWay t a1).bind fun x7 => some x7)))))
abbrev rm_X3_opensIn : Room := { frames := 5, cells := 0, slots := 0, locals := 115 }
theorem hd_X3_opensIn : yX3_opensIn.cls = RX3 ∧ yX3_opensIn.cls ≠ "java/lang/invoke/MethodHandle" ∧ yX3_opensIn.cls ≠ "java/lang/invoke/VarHandle" ∧ (parseMethodDescriptor yX3_opensIn.desc).map (fun d => d.parameters.length) = some 1 := by decide +kernel
set_option maxHeartbeats 4000000 in
set_option maxRecDepth 100000 in
theorem c_X3_opensIn (l : Launch) (D : va_G) (cI cZ cT : ClassId) (G : q_G) (A : Nat → Prop) (w sl : Nat) (o a : Nat) (t : TT) (hs hst : Nat) (ta ca : Nat → Nat) (hh : HH) (pd sg nm : Nat) (pp : PP) (a1 : Int32) (r : Int32) (h : f_X3_opensIn t hh pp a1 = some r) : Met l yX3_opensIn (wq yX3_opensIn cX3_opensIn 2 (some .int)) rm_X3_opensIn (q_R D (q_tys cI cZ cT) ((wX w o hs pd sl) ++ (wT cI o a t) ++ (wH cI cT hs hst ta ca hh) ++ (wPd cI pd sg nm pp)) (q_E G A) [.ref w, .int a1]) (vp_Si (fun r' => r' = r)) 0 0 (fun _ => False) := by
  refine q_RI (cc := cX3_opensIn) (maxL := 2) (ret := (some .int)) (plainFor_of_name (by decide)) (Nat.le_of_ble_eq_true rfl) (fun p e s m below meth c C0 hP hK hE ls hl => ?_)
  have hE : q_E G A s := hE
  have hS : va_S A s.heap s.heap [] := va_S.rf
  have hl : lv_has ls 2 [(0, .ref w), (1, .int a1)] := hl
  obtain ⟨hx, hb, hr, hml, hown, hts, hlocks⟩ := id C0
  have hF : CallFix p m c cX3_opensIn 2 s _ BW RX3 := ⟨hx, hb, hml, hown, hts⟩
  rw [f_X3_opensIn] at h
  refine lv_aload_n hx hb dX3_opensIn_0 rfl (lv_at hl 0 rfl) ?_
  refine va_get (D := D) (v := .ref o) (C := RX3) (T := TX3) (N := 4) hx hb hts iw_X3 hown hK hP 0 rfl rfl 0 (by decide) (hts _ mw_307) (fun _ h9 => h9) rfl dX3_opensIn_1 ?_
  refine lv_iload_n hx hb dX3_opensIn_4 rfl (lv_at hl 1 rfl) ?_
  obtain ⟨x1, h2, h⟩ := bE h
  refine x_RVN (As := [.int a1]) (rest := []) hF (c_X2_hasQuarrel l D cI cZ cT o a t a1 x1 h2) ⟨(va_cnB 1 hts (gq mw_155) rfl rfl rfl (nM_of hE 24 rfl) (hts _ mw_15) hd_X2_hasQuarrel.2 ⟨Nat.le_of_ble_eq_true rfl, Nat.le_of_ble_eq_true rfl⟩), hts _ mw_227, hts _ mw_228⟩ hK hP q_T_bl (fun _ _ _ => trivial) [1, 2] rfl rfl rfl rfl hl.1 rfl (Nat.le_of_ble_eq_true rfl) dX3_opensIn_5 ⟨Nat.zero_le _, Nat.zero_le _⟩ ?_
  refine lv_if_ne (tgt := 13) hx hb dX3_opensIn_8 (by decide) (fun c3 => ?_) (fun c3 => ?_)
  · have h := xf c3 h
    refine lv_aload_n hx hb dX3_opensIn_13 rfl (lv_at hl 0 rfl) ?_
    refine va_get (D := D) (v := .ref o) (C := RX3) (T := TX3) (N := 4) hx hb hts iw_X3 hown hK hP 0 rfl rfl 0 (by decide) (hts _ mw_307) (fun _ h9 => h9) rfl dX3_opensIn_14 ?_
    refine lv_iload_n hx hb dX3_opensIn_17 rfl (lv_at hl 1 rfl) ?_
    obtain ⟨x4, h5, h⟩ := bE h
    refine x_RVN (As := [.int a1]) (rest := []) hF (c_X2_isOpen l D cI cZ cT o a t a1 x4 h5) ⟨(va_cnB 1 hts (gq mw_156) rfl rfl rfl (nM_of hE 28 rfl) (hts _ mw_15) hd_X2_isOpen.2 ⟨Nat.le_of_ble_eq_true rfl, Nat.le_of_ble_eq_true rfl⟩), hts _ mw_185, hts _ mw_186⟩ hK hP q_T_bl (fun _ _ _ => trivial) [1, 2] rfl rfl rfl rfl hl.1 rfl (Nat.le_of_ble_eq_true rfl) dX3_opensIn_18 ⟨Nat.zero_le _, Nat.zero_le _⟩ ?_
    refine lv_if_eq (tgt := 35) hx hb dX3_opensIn_21 (by decide) (fun c6 => ?_) (fun c6 => ?_)
    · have h := xt c6 h
      refine lv_bipush (v := (-5)) hx hb dX3_opensIn_35 (by decide) ?_
      cases h
      exact x_retR C0 rfl dX3_opensIn_37
    · have h := xf c6 h
      refine lv_aload_n hx hb dX3_opensIn_24 rfl (lv_at hl 0 rfl) ?_
      refine va_get (D := D) (v := .ref o) (C := RX3) (T := TX3) (N := 4) hx hb hts iw_X3 hown hK hP 0 rfl rfl 0 (by decide) (hts _ mw_307) (fun _ h9 => h9) rfl dX3_opensIn_25 ?_
      refine lv_iload_n hx hb dX3_opensIn_28 rfl (lv_at hl 1 rfl) ?_
      obtain ⟨x7, h8, h⟩ := bE h
      refine x_RVN (As := [.int a1]) (rest := []) hF (c_X2_hoursUntilWay l D cI cZ cT o a t a1 x7 h8) ⟨(va_cnB 1 hts (gq mw_269) rfl rfl rfl (nM_of hE 29 rfl) (hts _ mw_15) hd_X2_hoursUntilWay.2 ⟨Nat.le_of_ble_eq_true rfl, Nat.le_of_ble_eq_true rfl⟩), hts _ mw_378, hts _ mw_379⟩ hK hP q_T_bl (fun _ _ _ => trivial) [1, 2] rfl rfl rfl rfl hl.1 rfl (Nat.le_of_ble_eq_true rfl) dX3_opensIn_29 ⟨Nat.zero_le _, Nat.zero_le _⟩ ?_
      refine lv_goto (tgt := 37) hx hb dX3_opensIn_32 (by decide) ?_
      cases h
      exact x_retR C0 rfl dX3_opensIn_37
  · have h := xt c3 h
    refine lv_iconst (v := (-1)) hx hb dX3_opensIn_11 (by decide) ?_
    cases h
    exact x_retR C0 rfl dX3_opensIn_12

/-! QuarrelWays.dueIn (I)I -/
def f_X3_dueIn (t : TT) (hh : HH) (pp : PP) (a1 : Int32) : Option (Int32) := ((f_X2_hasQuarrel t a1).bind fun x1 => (if x1 = 0 then some (-1 : Int32) else ((f_X2_isOpen t a1).bind fun x4 => (if x4 = 0 then some (-5 : Int32) else ((f_X2_hoursUntilDuel t a1).bind fun x7 => some x7)))))
abbrev rm_X3_dueIn : Room := { frames := 5, cells := 0, slots := 0, locals := 118 }
theorem hd_X3_dueIn : yX3_dueIn.cls = RX3 ∧ yX3_dueIn.cls ≠ "java/lang/invoke/MethodHandle" ∧ yX3_dueIn.cls ≠ "java/lang/invoke/VarHandle" ∧ (parseMethodDescriptor yX3_dueIn.desc).map (fun d => d.parameters.length) = some 1 := by decide +kernel
set_option maxHeartbeats 4000000 in
set_option maxRecDepth 100000 in
theorem c_X3_dueIn (l : Launch) (D : va_G) (cI cZ cT : ClassId) (G : q_G) (A : Nat → Prop) (w sl : Nat) (o a : Nat) (t : TT) (hs hst : Nat) (ta ca : Nat → Nat) (hh : HH) (pd sg nm : Nat) (pp : PP) (a1 : Int32) (r : Int32) (h : f_X3_dueIn t hh pp a1 = some r) : Met l yX3_dueIn (wq yX3_dueIn cX3_dueIn 2 (some .int)) rm_X3_dueIn (q_R D (q_tys cI cZ cT) ((wX w o hs pd sl) ++ (wT cI o a t) ++ (wH cI cT hs hst ta ca hh) ++ (wPd cI pd sg nm pp)) (q_E G A) [.ref w, .int a1]) (vp_Si (fun r' => r' = r)) 0 0 (fun _ => False) := by
  refine q_RI (cc := cX3_dueIn) (maxL := 2) (ret := (some .int)) (plainFor_of_name (by decide)) (Nat.le_of_ble_eq_true rfl) (fun p e s m below meth c C0 hP hK hE ls hl => ?_)
  have hE : q_E G A s := hE
  have hS : va_S A s.heap s.heap [] := va_S.rf
  have hl : lv_has ls 2 [(0, .ref w), (1, .int a1)] := hl
  obtain ⟨hx, hb, hr, hml, hown, hts, hlocks⟩ := id C0
  have hF : CallFix p m c cX3_dueIn 2 s _ BW RX3 := ⟨hx, hb, hml, hown, hts⟩
  rw [f_X3_dueIn] at h
  refine lv_aload_n hx hb dX3_dueIn_0 rfl (lv_at hl 0 rfl) ?_
  refine va_get (D := D) (v := .ref o) (C := RX3) (T := TX3) (N := 4) hx hb hts iw_X3 hown hK hP 0 rfl rfl 0 (by decide) (hts _ mw_307) (fun _ h9 => h9) rfl dX3_dueIn_1 ?_
  refine lv_iload_n hx hb dX3_dueIn_4 rfl (lv_at hl 1 rfl) ?_
  obtain ⟨x1, h2, h⟩ := bE h
  refine x_RVN (As := [.int a1]) (rest := []) hF (c_X2_hasQuarrel l D cI cZ cT o a t a1 x1 h2) ⟨(va_cnB 1 hts (gq mw_155) rfl rfl rfl (nM_of hE 24 rfl) (hts _ mw_15) hd_X2_hasQuarrel.2 ⟨Nat.le_of_ble_eq_true rfl, Nat.le_of_ble_eq_true rfl⟩), hts _ mw_227, hts _ mw_228⟩ hK hP q_T_bl (fun _ _ _ => trivial) [1, 2] rfl rfl rfl rfl hl.1 rfl (Nat.le_of_ble_eq_true rfl) dX3_dueIn_5 ⟨Nat.zero_le _, Nat.zero_le _⟩ ?_
  refine lv_if_ne (tgt := 13) hx hb dX3_dueIn_8 (by decide) (fun c3 => ?_) (fun c3 => ?_)
  · have h := xf c3 h
    refine lv_aload_n hx hb dX3_dueIn_13 rfl (lv_at hl 0 rfl) ?_
    refine va_get (D := D) (v := .ref o) (C := RX3) (T := TX3) (N := 4) hx hb hts iw_X3 hown hK hP 0 rfl rfl 0 (by decide) (hts _ mw_307) (fun _ h9 => h9) rfl dX3_dueIn_14 ?_
    refine lv_iload_n hx hb dX3_dueIn_17 rfl (lv_at hl 1 rfl) ?_
    obtain ⟨x4, h5, h⟩ := bE h
    refine x_RVN (As := [.int a1]) (rest := []) hF (c_X2_isOpen l D cI cZ cT o a t a1 x4 h5) ⟨(va_cnB 1 hts (gq mw_156) rfl rfl rfl (nM_of hE 28 rfl) (hts _ mw_15) hd_X2_isOpen.2 ⟨Nat.le_of_ble_eq_true rfl, Nat.le_of_ble_eq_true rfl⟩), hts _ mw_185, hts _ mw_186⟩ hK hP q_T_bl (fun _ _ _ => trivial) [1, 2] rfl rfl rfl rfl hl.1 rfl (Nat.le_of_ble_eq_true rfl) dX3_dueIn_18 ⟨Nat.zero_le _, Nat.zero_le _⟩ ?_
    refine lv_if_eq (tgt := 35) hx hb dX3_dueIn_21 (by decide) (fun c6 => ?_) (fun c6 => ?_)
    · have h := xt c6 h
      refine lv_bipush (v := (-5)) hx hb dX3_dueIn_35 (by decide) ?_
      cases h
      exact x_retR C0 rfl dX3_dueIn_37
    · have h := xf c6 h
      refine lv_aload_n hx hb dX3_dueIn_24 rfl (lv_at hl 0 rfl) ?_
      refine va_get (D := D) (v := .ref o) (C := RX3) (T := TX3) (N := 4) hx hb hts iw_X3 hown hK hP 0 rfl rfl 0 (by decide) (hts _ mw_307) (fun _ h9 => h9) rfl dX3_dueIn_25 ?_
      refine lv_iload_n hx hb dX3_dueIn_28 rfl (lv_at hl 1 rfl) ?_
      obtain ⟨x7, h8, h⟩ := bE h
      refine x_RVN (As := [.int a1]) (rest := []) hF (c_X2_hoursUntilDuel l D cI cZ cT o a t a1 x7 h8) ⟨(va_cnB 1 hts (gq mw_270) rfl rfl rfl (nM_of hE 30 rfl) (hts _ mw_15) hd_X2_hoursUntilDuel.2 ⟨Nat.le_of_ble_eq_true rfl, Nat.le_of_ble_eq_true rfl⟩), hts _ mw_381, hts _ mw_382⟩ hK hP q_T_bl (fun _ _ _ => trivial) [1, 2] rfl rfl rfl rfl hl.1 rfl (Nat.le_of_ble_eq_true rfl) dX3_dueIn_29 ⟨Nat.zero_le _, Nat.zero_le _⟩ ?_
      refine lv_goto (tgt := 37) hx hb dX3_dueIn_32 (by decide) ?_
      cases h
      exact x_retR C0 rfl dX3_dueIn_37
  · have h := xt c3 h
    refine lv_iconst (v := (-1)) hx hb dX3_dueIn_11 (by decide) ?_
    cases h
    exact x_retR C0 rfl dX3_dueIn_12

/-! QuarrelWays.ifInsulted (III)I -/
def f_X3_ifInsulted (t : TT) (hh : HH) (pp : PP) (a1 : Int32) (a2 : Int32) (a3 : Int32) : Option (Int32) := ((f_X2_errorOfInsult t a1 a2 a3).bind fun x1 => (if x1 = 0 then ((f_X2_waysBetween t a1 a2 a3 (0 : Int32)).bind fun x4 => some x4) else some x1))
abbrev rm_X3_ifInsulted : Room := { frames := 3, cells := 0, slots := 0, locals := 73 }
theorem hd_X3_ifInsulted : yX3_ifInsulted.cls = RX3 ∧ yX3_ifInsulted.cls ≠ "java/lang/invoke/MethodHandle" ∧ yX3_ifInsulted.cls ≠ "java/lang/invoke/VarHandle" ∧ (parseMethodDescriptor yX3_ifInsulted.desc).map (fun d => d.parameters.length) = some 3 := by decide +kernel
set_option maxHeartbeats 4000000 in
set_option maxRecDepth 100000 in
theorem c_X3_ifInsulted (l : Launch) (D : va_G) (cI cZ cT : ClassId) (G : q_G) (A : Nat → Prop) (w sl : Nat) (o a : Nat) (t : TT) (hs hst : Nat) (ta ca : Nat → Nat) (hh : HH) (pd sg nm : Nat) (pp : PP) (a1 : Int32) (a2 : Int32) (a3 : Int32) (r : Int32) (h : f_X3_ifInsulted t hh pp a1 a2 a3 = some r) : Met l yX3_ifInsulted (wq yX3_ifInsulted cX3_ifInsulted 5 (some .int)) rm_X3_ifInsulted (q_R D (q_tys cI cZ cT) ((wX w o hs pd sl) ++ (wT cI o a t) ++ (wH cI cT hs hst ta ca hh) ++ (wPd cI pd sg nm pp)) (q_E G A) [.ref w, .int a1, .int a2, .int a3]) (vp_Si (fun r' => r' = r)) 0 0 (fun _ => False) := by
  refine q_RI (cc := cX3_ifInsulted) (maxL := 5) (ret := (some .int)) (plainFor_of_name (by decide)) (Nat.le_of_ble_eq_true rfl) (fun p e s m below meth c C0 hP hK hE ls hl => ?_)
  have hE : q_E G A s := hE
  have hS : va_S A s.heap s.heap [] := va_S.rf
  have hl : lv_has ls 5 [(0, .ref w), (1, .int a1), (2, .int a2), (3, .int a3)] := hl
  obtain ⟨hx, hb, hr, hml, hown, hts, hlocks⟩ := id C0
  have hF : CallFix p m c cX3_ifInsulted 5 s _ BW RX3 := ⟨hx, hb, hml, hown, hts⟩
  rw [f_X3_ifInsulted] at h
  refine lv_aload_n hx hb dX3_ifInsulted_0 rfl (lv_at hl 0 rfl) ?_
  refine va_get (D := D) (v := .ref o) (C := RX3) (T := TX3) (N := 4) hx hb hts iw_X3 hown hK hP 0 rfl rfl 0 (by decide) (hts _ mw_307) (fun _ h9 => h9) rfl dX3_ifInsulted_1 ?_
  refine lv_iload_n hx hb dX3_ifInsulted_4 rfl (lv_at hl 1 rfl) ?_
  refine lv_iload_n hx hb dX3_ifInsulted_5 rfl (lv_at hl 2 rfl) ?_
  refine lv_iload_n hx hb dX3_ifInsulted_6 rfl (lv_at hl 3 rfl) ?_
  obtain ⟨x1, h2, h⟩ := bE h
  refine x_RVN (As := [.int a1, .int a2, .int a3]) (rest := []) hF (c_X2_errorOfInsult l D cI cZ cT o a t a1 a2 a3 x1 h2) ⟨(va_cnB 3 hts (gq mw_180) rfl rfl rfl (nM_of hE 31 rfl) (hts _ mw_15) hd_X2_errorOfInsult.2 ⟨Nat.le_of_ble_eq_true rfl, Nat.le_of_ble_eq_true rfl⟩), hts _ mw_192, hts _ mw_193⟩ hK hP q_T_bl (fun _ _ _ => trivial) [1, 2] rfl rfl rfl rfl hl.1 rfl (Nat.le_of_ble_eq_true rfl) dX3_ifInsulted_7 ⟨Nat.zero_le _, Nat.zero_le _⟩ ?_
  refine lv_istore (lv' := [(4, .int x1), (0, .ref w), (1, .int a1), (2, .int a2), (3, .int a3)]) hx hb dX3_ifInsulted_10 hl (by decide) rfl (fun ls hl => ?_)
  refine lv_iload hx hb dX3_ifInsulted_12 (lv_at hl 0 rfl) ?_
  refine lv_if_eq (tgt := 22) hx hb dX3_ifInsulted_14 (by decide) (fun c3 => ?_) (fun c3 => ?_)
  · have h := xt c3 h
    refine lv_aload_n hx hb dX3_ifInsulted_22 rfl (lv_at hl 1 rfl) ?_
    refine va_get (D := D) (v := .ref o) (C := RX3) (T := TX3) (N := 4) hx hb hts iw_X3 hown hK hP 0 rfl rfl 0 (by decide) (hts _ mw_307) (fun _ h9 => h9) rfl dX3_ifInsulted_23 ?_
    refine lv_iload_n hx hb dX3_ifInsulted_26 rfl (lv_at hl 2 rfl) ?_
    refine lv_iload_n hx hb dX3_ifInsulted_27 rfl (lv_at hl 3 rfl) ?_
    refine lv_iload_n hx hb dX3_ifInsulted_28 rfl (lv_at hl 4 rfl) ?_
    refine lv_iconst (v := 0) hx hb dX3_ifInsulted_29 (by decide) ?_
    obtain ⟨x4, h5, h⟩ := bE h
    refine x_RVN (As := [.int a1, .int a2, .int a3, .int (0 : Int32)]) (rest := []) hF (c_X2_waysBetween l D cI cZ cT o a t a1 a2 a3 (0 : Int32) x4 h5) ⟨(va_cnB 4 hts (gq mw_216) rfl rfl rfl (nM_of hE 32 rfl) (hts _ mw_15) hd_X2_waysBetween.2 ⟨Nat.le_of_ble_eq_true rfl, Nat.le_of_ble_eq_true rfl⟩), hts _ mw_221, hts _ mw_222⟩ hK hP q_T_bl (fun _ _ _ => trivial) [1, 2] rfl rfl rfl rfl hl.1 rfl (Nat.le_of_ble_eq_true rfl) dX3_ifInsulted_30 ⟨Nat.zero_le _, Nat.zero_le _⟩ ?_
    cases h
    exact x_retR C0 rfl dX3_ifInsulted_33
  · have h := xf c3 h
    refine lv_iload hx hb dX3_ifInsulted_17 (lv_at hl 0 rfl) ?_
    refine lv_goto (tgt := 33) hx hb dX3_ifInsulted_19 (by decide) ?_
    cases h
    exact x_retR C0 rfl dX3_ifInsulted_33

/-! QuarrelWays.ifFought (I)I -/
def f_X3_ifFought (t : TT) (hh : HH) (pp : PP) (a1 : Int32) : Option (Int32) := ((f_X2_hasQuarrel t a1).bind fun x1 => (if x1 = 0 then some (-1 : Int32) else ((f_X2_winnerOf t a1).bind fun x4 => some x4)))
abbrev rm_X3_ifFought : Room := { frames := 3, cells := 0, slots := 0, locals := 67 }
theorem hd_X3_ifFought : yX3_ifFought.cls = RX3 ∧ yX3_ifFought.cls ≠ "java/lang/invoke/MethodHandle" ∧ yX3_ifFought.cls ≠ "java/lang/invoke/VarHandle" ∧ (parseMethodDescriptor yX3_ifFought.desc).map (fun d => d.parameters.length) = some 1 := by decide +kernel
set_option maxHeartbeats 4000000 in
set_option maxRecDepth 100000 in
theorem c_X3_ifFought (l : Launch) (D : va_G) (cI cZ cT : ClassId) (G : q_G) (A : Nat → Prop) (w sl : Nat) (o a : Nat) (t : TT) (hs hst : Nat) (ta ca : Nat → Nat) (hh : HH) (pd sg nm : Nat) (pp : PP) (a1 : Int32) (r : Int32) (h : f_X3_ifFought t hh pp a1 = some r) : Met l yX3_ifFought (wq yX3_ifFought cX3_ifFought 2 (some .int)) rm_X3_ifFought (q_R D (q_tys cI cZ cT) ((wX w o hs pd sl) ++ (wT cI o a t) ++ (wH cI cT hs hst ta ca hh) ++ (wPd cI pd sg nm pp)) (q_E G A) [.ref w, .int a1]) (vp_Si (fun r' => r' = r)) 0 0 (fun _ => False) := by
  refine q_RI (cc := cX3_ifFought) (maxL := 2) (ret := (some .int)) (plainFor_of_name (by decide)) (Nat.le_of_ble_eq_true rfl) (fun p e s m below meth c C0 hP hK hE ls hl => ?_)
  have hE : q_E G A s := hE
  have hS : va_S A s.heap s.heap [] := va_S.rf
  have hl : lv_has ls 2 [(0, .ref w), (1, .int a1)] := hl
  obtain ⟨hx, hb, hr, hml, hown, hts, hlocks⟩ := id C0
  have hF : CallFix p m c cX3_ifFought 2 s _ BW RX3 := ⟨hx, hb, hml, hown, hts⟩
  rw [f_X3_ifFought] at h
  refine lv_aload_n hx hb dX3_ifFought_0 rfl (lv_at hl 0 rfl) ?_
  refine va_get (D := D) (v := .ref o) (C := RX3) (T := TX3) (N := 4) hx hb hts iw_X3 hown hK hP 0 rfl rfl 0 (by decide) (hts _ mw_307) (fun _ h9 => h9) rfl dX3_ifFought_1 ?_
  refine lv_iload_n hx hb dX3_ifFought_4 rfl (lv_at hl 1 rfl) ?_
  obtain ⟨x1, h2, h⟩ := bE h
  refine x_RVN (As := [.int a1]) (rest := []) hF (c_X2_hasQuarrel l D cI cZ cT o a t a1 x1 h2) ⟨(va_cnB 1 hts (gq mw_155) rfl rfl rfl (nM_of hE 24 rfl) (hts _ mw_15) hd_X2_hasQuarrel.2 ⟨Nat.le_of_ble_eq_true rfl, Nat.le_of_ble_eq_true rfl⟩), hts _ mw_227, hts _ mw_228⟩ hK hP q_T_bl (fun _ _ _ => trivial) [1, 2] rfl rfl rfl rfl hl.1 rfl (Nat.le_of_ble_eq_true rfl) dX3_ifFought_5 ⟨Nat.zero_le _, Nat.zero_le _⟩ ?_
  refine lv_if_eq (tgt := 22) hx hb dX3_ifFought_8 (by decide) (fun c3 => ?_) (fun c3 => ?_)
  · have h := xt c3 h
    refine lv_iconst (v := (-1)) hx hb dX3_ifFought_22 (by decide) ?_
    cases h
    exact x_retR C0 rfl dX3_ifFought_23
  · have h := xf c3 h
    refine lv_aload_n hx hb dX3_ifFought_11 rfl (lv_at hl 0 rfl) ?_
    refine va_get (D := D) (v := .ref o) (C := RX3) (T := TX3) (N := 4) hx hb hts iw_X3 hown hK hP 0 rfl rfl 0 (by decide) (hts _ mw_307) (fun _ h9 => h9) rfl dX3_ifFought_12 ?_
    refine lv_iload_n hx hb dX3_ifFought_15 rfl (lv_at hl 1 rfl) ?_
    obtain ⟨x4, h5, h⟩ := bE h
    refine x_RVN (As := [.int a1]) (rest := []) hF (c_X2_winnerOf l D cI cZ cT o a t a1 x4 h5) ⟨(va_cnB 1 hts (gq mw_241) rfl rfl rfl (nM_of hE 33 rfl) (hts _ mw_15) hd_X2_winnerOf.2 ⟨Nat.le_of_ble_eq_true rfl, Nat.le_of_ble_eq_true rfl⟩), hts _ mw_250, hts _ mw_251⟩ hK hP q_T_bl (fun _ _ _ => trivial) [1, 2] rfl rfl rfl rfl hl.1 rfl (Nat.le_of_ble_eq_true rfl) dX3_ifFought_16 ⟨Nat.zero_le _, Nat.zero_le _⟩ ?_
    refine lv_goto (tgt := 23) hx hb dX3_ifFought_19 (by decide) ?_
    cases h
    exact x_retR C0 rfl dX3_ifFought_23

/-! QuarrelWays.put (J)I -/
def f_X3_put (t : TT) (hh : HH) (pp : PP) (a1 : Int64) : Option (Int32 × PP) := ((f_X1_signsIn a1).bind fun x1 => (if x1 = 0 then some ((-2 : Int32), pp) else ((f_X1_append pp a1 x1).bind fun x4 => (if x4.1 = 0 then some ((-4 : Int32), x4.2) else some (x4.2.2.1, x4.2)))))
abbrev rm_X3_put : Room := { frames := 2, cells := 0, slots := 0, locals := 45 }
theorem hd_X3_put : yX3_put.cls = RX3 ∧ yX3_put.cls ≠ "java/lang/invoke/MethodHandle" ∧ yX3_put.cls ≠ "java/lang/invoke/VarHandle" ∧ (parseMethodDescriptor yX3_put.desc).map (fun d => d.parameters.length) = some 1 := by decide +kernel
set_option maxHeartbeats 4000000 in
set_option maxRecDepth 100000 in
theorem c_X3_put (l : Launch) (D : va_G) (cI cZ cT : ClassId) (G : q_G) (sz : Nat) (w sl : Nat) (o a : Nat) (t : TT) (hs hst : Nat) (ta ca : Nat → Nat) (hh : HH) (pd sg nm : Nat) (pp : PP) (a1 : Int64) (r : Int32 × PP) (h : f_X3_put t hh pp a1 = some r) : Met l yX3_put (wq yX3_put cX3_put 4 (some .int)) rm_X3_put (q_M D (q_tys cI cZ cT) sz ((wX w o hs pd sl) ++ (wT cI o a t) ++ (wH cI cT hs hst ta ca hh) ++ (wPd cI pd sg nm pp)) (q_E G (va_A ((wX w o hs pd sl) ++ (wT cI o a t) ++ (wH cI cT hs hst ta ca hh) ++ (wPd cI pd sg nm pp)) sz)) [.ref w, .long a1]) (va_Qi (fun r' _ => r' = r.1) (q_B D ((wX w o hs pd sl) ++ (wT cI o a t) ++ (wH cI cT hs hst ta ca hh) ++ (wPd cI pd sg nm pp)) sz ((wX w o hs pd sl) ++ (wT cI o a t) ++ (wH cI cT hs hst ta ca hh) ++ (wPd cI pd sg nm r.2))) (va_A ((wX w o hs pd sl) ++ (wT cI o a t) ++ (wH cI cT hs hst ta ca hh) ++ (wPd cI pd sg nm pp)) sz)) 0 0 (va_A ((wX w o hs pd sl) ++ (wT cI o a t) ++ (wH cI cT hs hst ta ca hh) ++ (wPd cI pd sg nm pp)) sz) := by
  refine q_MI (cc := cX3_put) (maxL := 4) (ret := (some .int)) (E := fun sz => (q_E G (va_A ((wX w o hs pd sl) ++ (wT cI o a t) ++ (wH cI cT hs hst ta ca hh) ++ (wPd cI pd sg nm pp)) sz))) (Qc := fun sz => (va_Qi (fun r' _ => r' = r.1) (q_B D ((wX w o hs pd sl) ++ (wT cI o a t) ++ (wH cI cT hs hst ta ca hh) ++ (wPd cI pd sg nm pp)) sz ((wX w o hs pd sl) ++ (wT cI o a t) ++ (wH cI cT hs hst ta ca hh) ++ (wPd cI pd sg nm r.2))) (va_A ((wX w o hs pd sl) ++ (wT cI o a t) ++ (wH cI cT hs hst ta ca hh) ++ (wPd cI pd sg nm pp)) sz))) (free := fun sz => va_A ((wX w o hs pd sl) ++ (wT cI o a t) ++ (wH cI cT hs hst ta ca hh) ++ (wPd cI pd sg nm pp)) sz) (plainFor_of_name (by decide)) (Nat.le_of_ble_eq_true rfl) (fun p e s m below meth c C0 hname hP hK hD hE ls hl => ?_)
  have hA : ∀ q, s.heap.size ≤ q → (va_A ((wX w o hs pd sl) ++ (wT cI o a t) ++ (wH cI cT hs hst ta ca hh) ++ (wPd cI pd sg nm pp)) s.heap.size) q := fun _ => Or.inr
  have hS : va_S (va_A ((wX w o hs pd sl) ++ (wT cI o a t) ++ (wH cI cT hs hst ta ca hh) ++ (wPd cI pd sg nm pp)) s.heap.size) s.heap s.heap [] := va_S.rf
  have hE : q_E G (va_A ((wX w o hs pd sl) ++ (wT cI o a t) ++ (wH cI cT hs hst ta ca hh) ++ (wPd cI pd sg nm pp)) s.heap.size) s := hE
  have hl : lv_has ls 4 [(0, .ref w), (1, .long a1)] := hl
  obtain ⟨hx, hb, hr, hml, hown, hts, hlocks⟩ := id C0
  have hF : CallFix p m c cX3_put 4 s _ BW RX3 := ⟨hx, hb, hml, hown, hts⟩
  rw [f_X3_put] at h
  refine lv_lload_n hx hb dX3_put_0 rfl (lv_at hl 1 rfl) ?_
  obtain ⟨x1, h2, h⟩ := bE h
  refine x_RSN (As := [.long a1]) (rest := []) hF (c_X1_signsIn l D cI cZ cT  a1 x1 h2) ⟨(va_cnB 1 hts (gq mw_61) rfl rfl rfl (nM_of hE 34 rfl) (hts _ mw_70) hd_X1_signsIn.2 ⟨Nat.le_of_ble_eq_true rfl, Nat.le_of_ble_eq_true rfl⟩), hts _ mw_387, trivial⟩ hK hP q_T_bl (fun _ _ _ => trivial) [] rfl rfl hl.1 rfl (Nat.le_of_ble_eq_true rfl) dX3_put_1 ⟨Nat.zero_le _, Nat.zero_le _⟩ ?_
  refine lv_istore_n (lv' := [(3, .int x1), (0, .ref w), (1, .long a1)]) hx hb dX3_put_4 rfl hl (by decide) rfl (fun ls hl => ?_)
  refine lv_iload_n hx hb dX3_put_5 rfl (lv_at hl 0 rfl) ?_
  refine lv_if_ne (tgt := 12) hx hb dX3_put_6 (by decide) (fun c3 => ?_) (fun c3 => ?_)
  · have h := xf c3 h
    refine lv_aload_n hx hb dX3_put_12 rfl (lv_at hl 1 rfl) ?_
    refine va_get (D := D) (v := .ref pd) (C := RX3) (T := TX3) (N := 4) hx hb hts iw_X3 hown hK hP 0 rfl rfl 2 (by decide) (hts _ mw_313) (fun _ h9 => h9) rfl dX3_put_13 ?_
    refine lv_lload_n hx hb dX3_put_16 rfl (lv_at hl 2 rfl) ?_
    refine lv_iload_n hx hb dX3_put_17 rfl (lv_at hl 0 rfl) ?_
    obtain ⟨x4, h5, h⟩ := bE h
    refine x_MVNp (As := [.long a1, .int x1]) (rest := []) (wr := (wX w o hs pd sl) ++ (wT cI o a t) ++ (wH cI cT hs hst ta ca hh)) (W1 := (wX w o hs pd sl) ++ (wT cI o a t) ++ (wH cI cT hs hst ta ca hh) ++ (wPd cI pd sg nm x4.2)) hF (c_X1_append l D cI cZ cT _ pd sg nm pp a1 x1 x4 h5) ⟨(va_cnB 2 hts (gq mw_66) rfl rfl rfl (nM_of hE 35 rfl) (hts _ mw_70) hd_X1_append.2 ⟨Nat.le_of_ble_eq_true rfl, Nat.le_of_ble_eq_true rfl⟩), hts _ mw_388, hts _ mw_389⟩ hK hP hD hS hA q_T_bl (fun _ _ _ => trivial) (p4_P _ _ _ _) (p4_P _ _ _ _).symm rfl rfl rfl hl.1 rfl (Nat.le_of_ble_eq_true rfl) dX3_put_18 ⟨Nat.zero_le _, Nat.zero_le _⟩ (fun H locs hP hD hS => ?_)
    refine lv_if_eq (tgt := 34) hx hb dX3_put_21 (by decide) (fun c6 => ?_) (fun c6 => ?_)
    · have h := xt c6 h
      refine lv_bipush (v := (-4)) hx hb dX3_put_34 (by decide) ?_
      cases h
      exact x_retM C0 rfl hP hD hS dX3_put_36
    · have h := xf c6 h
      refine lv_aload_n hx hb dX3_put_24 rfl (lv_at hl 1 rfl) ?_
      refine va_get (D := D) (v := .ref pd) (C := RX3) (T := TX3) (N := 4) hx hb hts iw_X3 hown hK hP 0 rfl rfl 2 (by decide) (hts _ mw_313) (fun _ h9 => h9) rfl dX3_put_25 ?_
      refine va_getN (D := D) (v := .int x4.2.2.1) (C := RX1) (T := TX1) (N := 6) hx hb hts iw_X1 hown hK hP 19 rfl rfl 1 (by decide) (nF_of hE 0 rfl) (fun _ h9 => h9) rfl dX3_put_28 ?_
      refine lv_goto (tgt := 36) hx hb dX3_put_31 (by decide) ?_
      cases h
      exact x_retM C0 rfl hP hD hS dX3_put_36
  · have h := xt c3 h
    refine lv_bipush (v := (-2)) hx hb dX3_put_9 (by decide) ?_
    cases h
    exact x_retM C0 rfl hP hD hS dX3_put_11

/-! QuarrelWays.wipe ()I -/
def f_X3_wipe (t : TT) (hh : HH) (pp : PP) : Option (Int32 × PP) := some (pp.2.1, (P1 pp (0 : Int32)))
abbrev rm_X3_wipe : Room := { frames := 0, cells := 0, slots := 0, locals := 0 }
theorem hd_X3_wipe : yX3_wipe.cls = RX3 ∧ yX3_wipe.cls ≠ "java/lang/invoke/MethodHandle" ∧ yX3_wipe.cls ≠ "java/lang/invoke/VarHandle" ∧ (parseMethodDescriptor yX3_wipe.desc).map (fun d => d.parameters.length) = some 0 := by decide +kernel
set_option maxHeartbeats 4000000 in
set_option maxRecDepth 100000 in
theorem c_X3_wipe (l : Launch) (D : va_G) (cI cZ cT : ClassId) (G : q_G) (sz : Nat) (w sl : Nat) (o a : Nat) (t : TT) (hs hst : Nat) (ta ca : Nat → Nat) (hh : HH) (pd sg nm : Nat) (pp : PP) (r : Int32 × PP) (h : f_X3_wipe t hh pp = some r) : Met l yX3_wipe (wq yX3_wipe cX3_wipe 2 (some .int)) rm_X3_wipe (q_M D (q_tys cI cZ cT) sz ((wX w o hs pd sl) ++ (wT cI o a t) ++ (wH cI cT hs hst ta ca hh) ++ (wPd cI pd sg nm pp)) (q_E G (va_A ((wX w o hs pd sl) ++ (wT cI o a t) ++ (wH cI cT hs hst ta ca hh) ++ (wPd cI pd sg nm pp)) sz)) [.ref w]) (va_Qi (fun r' _ => r' = r.1) (q_B D ((wX w o hs pd sl) ++ (wT cI o a t) ++ (wH cI cT hs hst ta ca hh) ++ (wPd cI pd sg nm pp)) sz ((wX w o hs pd sl) ++ (wT cI o a t) ++ (wH cI cT hs hst ta ca hh) ++ (wPd cI pd sg nm r.2))) (va_A ((wX w o hs pd sl) ++ (wT cI o a t) ++ (wH cI cT hs hst ta ca hh) ++ (wPd cI pd sg nm pp)) sz)) 0 0 (va_A ((wX w o hs pd sl) ++ (wT cI o a t) ++ (wH cI cT hs hst ta ca hh) ++ (wPd cI pd sg nm pp)) sz) := by
  refine q_MI (cc := cX3_wipe) (maxL := 2) (ret := (some .int)) (E := fun sz => (q_E G (va_A ((wX w o hs pd sl) ++ (wT cI o a t) ++ (wH cI cT hs hst ta ca hh) ++ (wPd cI pd sg nm pp)) sz))) (Qc := fun sz => (va_Qi (fun r' _ => r' = r.1) (q_B D ((wX w o hs pd sl) ++ (wT cI o a t) ++ (wH cI cT hs hst ta ca hh) ++ (wPd cI pd sg nm pp)) sz ((wX w o hs pd sl) ++ (wT cI o a t) ++ (wH cI cT hs hst ta ca hh) ++ (wPd cI pd sg nm r.2))) (va_A ((wX w o hs pd sl) ++ (wT cI o a t) ++ (wH cI cT hs hst ta ca hh) ++ (wPd cI pd sg nm pp)) sz))) (free := fun sz => va_A ((wX w o hs pd sl) ++ (wT cI o a t) ++ (wH cI cT hs hst ta ca hh) ++ (wPd cI pd sg nm pp)) sz) (plainFor_of_name (by decide)) (Nat.le_of_ble_eq_true rfl) (fun p e s m below meth c C0 hname hP hK hD hE ls hl => ?_)
  have hA : ∀ q, s.heap.size ≤ q → (va_A ((wX w o hs pd sl) ++ (wT cI o a t) ++ (wH cI cT hs hst ta ca hh) ++ (wPd cI pd sg nm pp)) s.heap.size) q := fun _ => Or.inr
  have hS : va_S (va_A ((wX w o hs pd sl) ++ (wT cI o a t) ++ (wH cI cT hs hst ta ca hh) ++ (wPd cI pd sg nm pp)) s.heap.size) s.heap s.heap [] := va_S.rf
  have hE : q_E G (va_A ((wX w o hs pd sl) ++ (wT cI o a t) ++ (wH cI cT hs hst ta ca hh) ++ (wPd cI pd sg nm pp)) s.heap.size) s := hE
  have hl : lv_has ls 2 [(0, .ref w)] := hl
  obtain ⟨hx, hb, hr, hml, hown, hts, hlocks⟩ := id C0
  have hF : CallFix p m c cX3_wipe 2 s _ BW RX3 := ⟨hx, hb, hml, hown, hts⟩
  rw [f_X3_wipe] at h
  refine lv_aload_n hx hb dX3_wipe_0 rfl (lv_at hl 0 rfl) ?_
  refine va_get (D := D) (v := .ref pd) (C := RX3) (T := TX3) (N := 4) hx hb hts iw_X3 hown hK hP 0 rfl rfl 2 (by decide) (hts _ mw_313) (fun _ h9 => h9) rfl dX3_wipe_1 ?_
  refine va_getN (D := D) (v := .int pp.2.1) (C := RX1) (T := TX1) (N := 6) hx hb hts iw_X1 hown hK hP 19 rfl rfl 1 (by decide) (nF_of hE 0 rfl) (fun _ h9 => h9) rfl dX3_wipe_4 ?_
  refine lv_istore_n (lv' := [(1, .int pp.2.1), (0, .ref w)]) hx hb dX3_wipe_7 rfl hl (by decide) rfl (fun ls hl => ?_)
  refine lv_aload_n hx hb dX3_wipe_8 rfl (lv_at hl 1 rfl) ?_
  refine va_get (D := D) (v := .ref pd) (C := RX3) (T := TX3) (N := 4) hx hb hts iw_X3 hown hK hP 0 rfl rfl 2 (by decide) (hts _ mw_313) (fun _ h9 => h9) rfl dX3_wipe_9 ?_
  refine lv_iconst (v := 0) hx hb dX3_wipe_12 (by decide) ?_
  refine va_putN (D := D) (v := .int (0 : Int32)) (ty := .int) (C := RX1) (T := TX1) (N := 6) hx hb hts iw_X1 tyX1 tyX1_ok nmX1 hown hK hP hD hS 19 rfl rfl 1 (by decide) (nF_of hE 0 rfl) (fun _ h9 => h9) rfl (by decide +kernel) rfl rfl (Nat.le_of_ble_eq_true rfl) dX3_wipe_13 (fun H locs hP hD hS => ?_)
  have hP : va_P D vwCl ((wX w o hs pd sl) ++ (wT cI o a t) ++ (wH cI cT hs hst ta ca hh) ++ (wPd cI pd sg nm (P1 pp (0 : Int32)))) H := hP
  have hD : va_D (va_A ((wX w o hs pd sl) ++ (wT cI o a t) ++ (wH cI cT hs hst ta ca hh) ++ (wPd cI pd sg nm pp)) s.heap.size) ((wX w o hs pd sl) ++ (wT cI o a t) ++ (wH cI cT hs hst ta ca hh) ++ (wPd cI pd sg nm (P1 pp (0 : Int32)))) := hD
  refine lv_iload_n hx hb dX3_wipe_16 rfl (lv_at hl 0 rfl) ?_
  cases h
  exact x_retM C0 rfl hP hD hS dX3_wipe_17

/-! QuarrelWays.fault ()I -/
def f_X3_fault (t : TT) (hh : HH) (pp : PP) : Option (Int32 × PP) := ((f_X1_firstFault pp).bind fun x1 => some (x1.1, x1.2))
abbrev rm_X3_fault : Room := { frames := 6, cells := 0, slots := 0, locals := 128 }
theorem hd_X3_fault : yX3_fault.cls = RX3 ∧ yX3_fault.cls ≠ "java/lang/invoke/MethodHandle" ∧ yX3_fault.cls ≠ "java/lang/invoke/VarHandle" ∧ (parseMethodDescriptor yX3_fault.desc).map (fun d => d.parameters.length) = some 0 := by decide +kernel
set_option maxHeartbeats 4000000 in
set_option maxRecDepth 100000 in
theorem c_X3_fault (l : Launch) (D : va_G) (cI cZ cT : ClassId) (G : q_G) (sz : Nat) (w sl : Nat) (o a : Nat) (t : TT) (hs hst : Nat) (ta ca : Nat → Nat) (hh : HH) (pd sg nm : Nat) (pp : PP) (r : Int32 × PP) (h : f_X3_fault t hh pp = some r) : Met l yX3_fault (wq yX3_fault cX3_fault 1 (some .int)) rm_X3_fault (q_M D (q_tys cI cZ cT) sz ((wX w o hs pd sl) ++ (wT cI o a t) ++ (wH cI cT hs hst ta ca hh) ++ (wPd cI pd sg nm pp)) (q_E G (va_A ((wX w o hs pd sl) ++ (wT cI o a t) ++ (wH cI cT hs hst ta ca hh) ++ (wPd cI pd sg nm pp)) sz)) [.ref w]) (va_Qi (fun r' _ => r' = r.1) (q_B D ((wX w o hs pd sl) ++ (wT cI o a t) ++ (wH cI cT hs hst ta ca hh) ++ (wPd cI pd sg nm pp)) sz ((wX w o hs pd sl) ++ (wT cI o a t) ++ (wH cI cT hs hst ta ca hh) ++ (wPd cI pd sg nm r.2))) (va_A ((wX w o hs pd sl) ++ (wT cI o a t) ++ (wH cI cT hs hst ta ca hh) ++ (wPd cI pd sg nm pp)) sz)) 0 0 (va_A ((wX w o hs pd sl) ++ (wT cI o a t) ++ (wH cI cT hs hst ta ca hh) ++ (wPd cI pd sg nm pp)) sz) := by
  refine q_MI (cc := cX3_fault) (maxL := 1) (ret := (some .int)) (E := fun sz => (q_E G (va_A ((wX w o hs pd sl) ++ (wT cI o a t) ++ (wH cI cT hs hst ta ca hh) ++ (wPd cI pd sg nm pp)) sz))) (Qc := fun sz => (va_Qi (fun r' _ => r' = r.1) (q_B D ((wX w o hs pd sl) ++ (wT cI o a t) ++ (wH cI cT hs hst ta ca hh) ++ (wPd cI pd sg nm pp)) sz ((wX w o hs pd sl) ++ (wT cI o a t) ++ (wH cI cT hs hst ta ca hh) ++ (wPd cI pd sg nm r.2))) (va_A ((wX w o hs pd sl) ++ (wT cI o a t) ++ (wH cI cT hs hst ta ca hh) ++ (wPd cI pd sg nm pp)) sz))) (free := fun sz => va_A ((wX w o hs pd sl) ++ (wT cI o a t) ++ (wH cI cT hs hst ta ca hh) ++ (wPd cI pd sg nm pp)) sz) (plainFor_of_name (by decide)) (Nat.le_of_ble_eq_true rfl) (fun p e s m below meth c C0 hname hP hK hD hE ls hl => ?_)
  have hA : ∀ q, s.heap.size ≤ q → (va_A ((wX w o hs pd sl) ++ (wT cI o a t) ++ (wH cI cT hs hst ta ca hh) ++ (wPd cI pd sg nm pp)) s.heap.size) q := fun _ => Or.inr
  have hS : va_S (va_A ((wX w o hs pd sl) ++ (wT cI o a t) ++ (wH cI cT hs hst ta ca hh) ++ (wPd cI pd sg nm pp)) s.heap.size) s.heap s.heap [] := va_S.rf
  have hE : q_E G (va_A ((wX w o hs pd sl) ++ (wT cI o a t) ++ (wH cI cT hs hst ta ca hh) ++ (wPd cI pd sg nm pp)) s.heap.size) s := hE
  have hl : lv_has ls 1 [(0, .ref w)] := hl
  obtain ⟨hx, hb, hr, hml, hown, hts, hlocks⟩ := id C0
  have hF : CallFix p m c cX3_fault 1 s _ BW RX3 := ⟨hx, hb, hml, hown, hts⟩
  rw [f_X3_fault] at h
  refine lv_aload_n hx hb dX3_fault_0 rfl (lv_at hl 0 rfl) ?_
  refine va_get (D := D) (v := .ref pd) (C := RX3) (T := TX3) (N := 4) hx hb hts iw_X3 hown hK hP 0 rfl rfl 2 (by decide) (hts _ mw_313) (fun _ h9 => h9) rfl dX3_fault_1 ?_
  obtain ⟨x1, h2, h⟩ := bE h
  refine x_MVNp (As := []) (rest := []) (wr := (wX w o hs pd sl) ++ (wT cI o a t) ++ (wH cI cT hs hst ta ca hh)) (W1 := (wX w o hs pd sl) ++ (wT cI o a t) ++ (wH cI cT hs hst ta ca hh) ++ (wPd cI pd sg nm x1.2)) hF (c_X1_firstFault l D cI cZ cT G _ pd sg nm pp  x1 h2) ⟨(va_cnB 0 hts (gq mw_151) rfl rfl rfl (nM_of hE 36 rfl) (hts _ mw_70) hd_X1_firstFault.2 ⟨Nat.le_of_ble_eq_true rfl, Nat.le_of_ble_eq_true rfl⟩), hts _ mw_391, hts _ mw_392⟩ hK hP hD hS hA q_E_bl (q_E_go hE hS (q_freep (p4_P _ _ _ _) hD hS hA)) (p4_P _ _ _ _) (p4_P _ _ _ _).symm rfl rfl rfl hl.1 rfl (Nat.le_of_ble_eq_true rfl) dX3_fault_4 ⟨Nat.zero_le _, Nat.zero_le _⟩ (fun H locs hP hD hS => ?_)
  cases h
  exact x_retM C0 rfl hP hD hS dX3_fault_7

/-! QuarrelWays.undo ()I -/
def f_X3_undo (t : TT) (hh : HH) (pp : PP) : Option (Int32 × TT × HH) := ((f_X0_goBack hh t).bind fun x1 => (if x1.1 = 0 then some ((-5 : Int32), x1.2.2, x1.2.1) else some (x1.2.1.2.1, x1.2.2, x1.2.1)))
abbrev rm_X3_undo : Room := { frames := 4, cells := 0, slots := 0, locals := 107 }
theorem hd_X3_undo : yX3_undo.cls = RX3 ∧ yX3_undo.cls ≠ "java/lang/invoke/MethodHandle" ∧ yX3_undo.cls ≠ "java/lang/invoke/VarHandle" ∧ (parseMethodDescriptor yX3_undo.desc).map (fun d => d.parameters.length) = some 0 := by decide +kernel
set_option maxHeartbeats 4000000 in
set_option maxRecDepth 100000 in
theorem c_X3_undo (l : Launch) (D : va_G) (cI cZ cT : ClassId) (G : q_G) (sz : Nat) (w sl : Nat) (o a : Nat) (t : TT) (hs hst : Nat) (ta ca : Nat → Nat) (hh : HH) (pd sg nm : Nat) (pp : PP) (r : Int32 × TT × HH) (h : f_X3_undo t hh pp = some r) : Met l yX3_undo (wq yX3_undo cX3_undo 1 (some .int)) rm_X3_undo (q_M D (q_tys cI cZ cT) sz ((wX w o hs pd sl) ++ (wT cI o a t) ++ (wH cI cT hs hst ta ca hh) ++ (wPd cI pd sg nm pp)) (q_E G (va_A ((wX w o hs pd sl) ++ (wT cI o a t) ++ (wH cI cT hs hst ta ca hh) ++ (wPd cI pd sg nm pp)) sz)) [.ref w]) (va_Qi (fun r' _ => r' = r.1) (q_B D ((wX w o hs pd sl) ++ (wT cI o a t) ++ (wH cI cT hs hst ta ca hh) ++ (wPd cI pd sg nm pp)) sz ((wX w o hs pd sl) ++ (wT cI o a r.2.1) ++ (wH cI cT hs hst ta ca r.2.2) ++ (wPd cI pd sg nm pp))) (va_A ((wX w o hs pd sl) ++ (wT cI o a t) ++ (wH cI cT hs hst ta ca hh) ++ (wPd cI pd sg nm pp)) sz)) 0 0 (va_A ((wX w o hs pd sl) ++ (wT cI o a t) ++ (wH cI cT hs hst ta ca hh) ++ (wPd cI pd sg nm pp)) sz) := by
  refine q_MI (cc := cX3_undo) (maxL := 1) (ret := (some .int)) (E := fun sz => (q_E G (va_A ((wX w o hs pd sl) ++ (wT cI o a t) ++ (wH cI cT hs hst ta ca hh) ++ (wPd cI pd sg nm pp)) sz))) (Qc := fun sz => (va_Qi (fun r' _ => r' = r.1) (q_B D ((wX w o hs pd sl) ++ (wT cI o a t) ++ (wH cI cT hs hst ta ca hh) ++ (wPd cI pd sg nm pp)) sz ((wX w o hs pd sl) ++ (wT cI o a r.2.1) ++ (wH cI cT hs hst ta ca r.2.2) ++ (wPd cI pd sg nm pp))) (va_A ((wX w o hs pd sl) ++ (wT cI o a t) ++ (wH cI cT hs hst ta ca hh) ++ (wPd cI pd sg nm pp)) sz))) (free := fun sz => va_A ((wX w o hs pd sl) ++ (wT cI o a t) ++ (wH cI cT hs hst ta ca hh) ++ (wPd cI pd sg nm pp)) sz) (plainFor_of_name (by decide)) (Nat.le_of_ble_eq_true rfl) (fun p e s m below meth c C0 hname hP hK hD hE ls hl => ?_)
  have hA : ∀ q, s.heap.size ≤ q → (va_A ((wX w o hs pd sl) ++ (wT cI o a t) ++ (wH cI cT hs hst ta ca hh) ++ (wPd cI pd sg nm pp)) s.heap.size) q := fun _ => Or.inr
  have hS : va_S (va_A ((wX w o hs pd sl) ++ (wT cI o a t) ++ (wH cI cT hs hst ta ca hh) ++ (wPd cI pd sg nm pp)) s.heap.size) s.heap s.heap [] := va_S.rf
  have hE : q_E G (va_A ((wX w o hs pd sl) ++ (wT cI o a t) ++ (wH cI cT hs hst ta ca hh) ++ (wPd cI pd sg nm pp)) s.heap.size) s := hE
  have hl : lv_has ls 1 [(0, .ref w)] := hl
  obtain ⟨hx, hb, hr, hml, hown, hts, hlocks⟩ := id C0
  have hF : CallFix p m c cX3_undo 1 s _ BW RX3 := ⟨hx, hb, hml, hown, hts⟩
  rw [f_X3_undo] at h
  refine lv_aload_n hx hb dX3_undo_0 rfl (lv_at hl 0 rfl) ?_
  refine va_get (D := D) (v := .ref hs) (C := RX3) (T := TX3) (N := 4) hx hb hts iw_X3 hown hK hP 0 rfl rfl 1 (by decide) (hts _ mw_310) (fun _ h9 => h9) rfl dX3_undo_1 ?_
  refine lv_aload_n hx hb dX3_undo_4 rfl (lv_at hl 0 rfl) ?_
  refine va_get (D := D) (v := .ref o) (C := RX3) (T := TX3) (N := 4) hx hb hts iw_X3 hown hK hP 0 rfl rfl 0 (by decide) (hts _ mw_307) (fun _ h9 => h9) rfl dX3_undo_5 ?_
  obtain ⟨x1, h2, h⟩ := bE h
  refine x_MVNp (As := [.ref o]) (rest := []) (wr := (wX w o hs pd sl) ++ (wPd cI pd sg nm pp)) (W1 := (wX w o hs pd sl) ++ (wT cI o a x1.2.2) ++ (wH cI cT hs hst ta ca x1.2.1) ++ (wPd cI pd sg nm pp)) hF (c_X0_goBack l D cI cZ cT G _ hs hst ta ca hh o a t  x1 h2) ⟨(va_cnB 1 hts (gq mw_52) rfl rfl rfl (nM_of hE 39 rfl) (hts _ mw_33) hd_X0_goBack.2 ⟨Nat.le_of_ble_eq_true rfl, Nat.le_of_ble_eq_true rfl⟩), hts _ mw_403, hts _ mw_404⟩ hK hP hD hS hA q_E_bl (q_E_go hE hS (q_freep (p4_HT _ _ _ _) hD hS hA)) (p4_HT _ _ _ _) (p4_HT _ _ _ _).symm rfl rfl rfl hl.1 rfl (Nat.le_of_ble_eq_true rfl) dX3_undo_8 ⟨Nat.zero_le _, Nat.zero_le _⟩ (fun H locs hP hD hS => ?_)
  refine lv_if_eq (tgt := 24) hx hb dX3_undo_11 (by decide) (fun c3 => ?_) (fun c3 => ?_)
  · have h := xt c3 h
    refine lv_bipush (v := (-5)) hx hb dX3_undo_24 (by decide) ?_
    cases h
    exact x_retM C0 rfl hP hD hS dX3_undo_26
  · have h := xf c3 h
    refine lv_aload_n hx hb dX3_undo_14 rfl (lv_at hl 0 rfl) ?_
    refine va_get (D := D) (v := .ref hs) (C := RX3) (T := TX3) (N := 4) hx hb hts iw_X3 hown hK hP 0 rfl rfl 1 (by decide) (hts _ mw_310) (fun _ h9 => h9) rfl dX3_undo_15 ?_
    refine va_getN (D := D) (v := .int x1.2.1.2.1) (C := RX0) (T := TX0) (N := 3) hx hb hts iw_X0 hown hK hP 3 rfl rfl 2 (by decide) (nF_of hE 1 rfl) (fun _ h9 => h9) rfl dX3_undo_18 ?_
    refine lv_goto (tgt := 26) hx hb dX3_undo_21 (by decide) ?_
    cases h
    exact x_retM C0 rfl hP hD hS dX3_undo_26

end G_X

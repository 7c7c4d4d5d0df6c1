section G_X1
variable {p : Program} {l : Launch} {e : Env} {s : State} {m : MethodId} {args : Array Value} {below : List Frame} {meth : Method} {c : Code} {D : va_G} {cI cZ cT : ClassId}

/-! QuarrelWays.swear (I)I -/
def f_X3_swear (t : TT) (hh : HH) (pp : PP) (a1 : Int32) : Option (Int32 × TT × HH) := ((f_X0_note hh t).bind fun x1 => ((f_X2_takeOath t a1).bind fun x3 => ((f_X0_keepUnlessError x1 x3.1).bind fun x5 => some (x5.1, x3.2, x5.2))))
abbrev rm_X3_swear : Room := { frames := 4, cells := 0, slots := 0, locals := 107 }
theorem hd_X3_swear : yX3_swear.cls = RX3 ∧ yX3_swear.cls ≠ "java/lang/invoke/MethodHandle" ∧ yX3_swear.cls ≠ "java/lang/invoke/VarHandle" ∧ (parseMethodDescriptor yX3_swear.desc).map (fun d => d.parameters.length) = some 1 := by decide +kernel
set_option maxHeartbeats 4000000 in
set_option maxRecDepth 100000 in
theorem c_X3_swear (l : Launch) (D : va_G) (cI cZ cT : ClassId) (G : q_G) (sz : Nat) (w sl : Nat) (o a : Nat) (t : TT) (hs hst : Nat) (ta ca : Nat → Nat) (hh : HH) (pd sg nm : Nat) (pp : PP) (a1 : Int32) (r : Int32 × TT × HH) (h : f_X3_swear t hh pp a1 = some r) : Met l yX3_swear (wq yX3_swear cX3_swear 2 (some .int)) rm_X3_swear (q_M D (q_tys cI cZ cT) sz ((wX w o hs pd sl) ++ (wT cI o a t) ++ (wH cI cT hs hst ta ca hh) ++ (wPd cI pd sg nm pp)) (q_E G (va_A ((wX w o hs pd sl) ++ (wT cI o a t) ++ (wH cI cT hs hst ta ca hh) ++ (wPd cI pd sg nm pp)) sz)) [.ref w, .int a1]) (va_Qi (fun r' _ => r' = r.1) (q_B D ((wX w o hs pd sl) ++ (wT cI o a t) ++ (wH cI cT hs hst ta ca hh) ++ (wPd cI pd sg nm pp)) sz ((wX w o hs pd sl) ++ (wT cI o a r.2.1) ++ (wH cI cT hs hst ta ca r.2.2) ++ (wPd cI pd sg nm pp))) (va_A ((wX w o hs pd sl) ++ (wT cI o a t) ++ (wH cI cT hs hst ta ca hh) ++ (wPd cI pd sg nm pp)) sz)) 0 0 (va_A ((wX w o hs pd sl) ++ (wT cI o a t) ++ (wH cI cT hs hst ta ca hh) ++ (wPd cI pd sg nm pp)) sz) := by
  refine q_MI (cc := cX3_swear) (maxL := 2) (ret := (some .int)) (E := fun sz => (q_E G (va_A ((wX w o hs pd sl) ++ (wT cI o a t) ++ (wH cI cT hs hst ta ca hh) ++ (wPd cI pd sg nm pp)) sz))) (Qc := fun sz => (va_Qi (fun r' _ => r' = r.1) (q_B D ((wX w o hs pd sl) ++ (wT cI o a t) ++ (wH cI cT hs hst ta ca hh) ++ (wPd cI pd sg nm pp)) sz ((wX w o hs pd sl) ++ (wT cI o a r.2.1) ++ (wH cI cT hs hst ta ca r.2.2) ++ (wPd cI pd sg nm pp))) (va_A ((wX w o hs pd sl) ++ (wT cI o a t) ++ (wH cI cT hs hst ta ca hh) ++ (wPd cI pd sg nm pp)) sz))) (free := fun sz => va_A ((wX w o hs pd sl) ++ (wT cI o a t) ++ (wH cI cT hs hst ta ca hh) ++ (wPd cI pd sg nm pp)) sz) (plainFor_of_name (by decide)) (Nat.le_of_ble_eq_true rfl) (fun p e s m below meth c C0 hname hP hK hD hE ls hl => ?_)
  have hA : ∀ q, s.heap.size ≤ q → (va_A ((wX w o hs pd sl) ++ (wT cI o a t) ++ (wH cI cT hs hst ta ca hh) ++ (wPd cI pd sg nm pp)) s.heap.size) q := fun _ => Or.inr
  have hS : va_S (va_A ((wX w o hs pd sl) ++ (wT cI o a t) ++ (wH cI cT hs hst ta ca hh) ++ (wPd cI pd sg nm pp)) s.heap.size) s.heap s.heap [] := va_S.rf
  have hE : q_E G (va_A ((wX w o hs pd sl) ++ (wT cI o a t) ++ (wH cI cT hs hst ta ca hh) ++ (wPd cI pd sg nm pp)) s.heap.size) s := hE
  have hl : lv_has ls 2 [(0, .ref w), (1, .int a1)] := hl
  obtain ⟨hx, hb, hr, hml, hown, hts, hlocks⟩ := id C0
  have hF : CallFix p m c cX3_swear 2 s _ BW RX3 := ⟨hx, hb, hml, hown, hts⟩
  rw [f_X3_swear] at h
  refine lv_aload_n hx hb dX3_swear_0 rfl (lv_at hl 0 rfl) ?_
  refine va_get (D := D) (v := .ref hs) (C := RX3) (T := TX3) (N := 4) hx hb hts iw_X3 hown hK hP 0 rfl rfl 1 (by decide) (hts _ mw_218) (fun _ h9 => h9) rfl dX3_swear_1 ?_
  refine lv_aload_n hx hb dX3_swear_4 rfl (lv_at hl 0 rfl) ?_
  refine va_get (D := D) (v := .ref o) (C := RX3) (T := TX3) (N := 4) hx hb hts iw_X3 hown hK hP 0 rfl rfl 0 (by decide) (hts _ mw_215) (fun _ h9 => h9) rfl dX3_swear_5 ?_
  obtain ⟨x1, h2, h⟩ := bE h
  refine x_VVNp (As := [.ref o]) (rest := []) (wr := (wX w o hs pd sl) ++ (wPd cI pd sg nm pp)) (W1 := (wX w o hs pd sl) ++ (wT cI o a t) ++ (wH cI cT hs hst ta ca x1) ++ (wPd cI pd sg nm pp)) hF (c_X0_note l D cI cZ cT G _ hs hst ta ca hh o a t  x1 h2) ⟨(va_cnB 1 hts (gq mw_47) rfl rfl rfl (nM_of hE 6 rfl) (hts _ mw_33) hd_X0_note.2 ⟨Nat.le_of_ble_eq_true rfl, Nat.le_of_ble_eq_true rfl⟩), hts _ mw_227, hts _ mw_228⟩ hK hP hD hS hA q_E_bl (q_E_go hE hS (q_freep (p4_HT (wX w o hs pd sl) (wT cI o a t) (wH cI cT hs hst ta ca hh) (wPd cI pd sg nm pp)) hD hS hA)) (p4_HT (wX w o hs pd sl) (wT cI o a t) (wH cI cT hs hst ta ca hh) (wPd cI pd sg nm pp)) (p4_HT (wX w o hs pd sl) (wT cI o a t) (wH cI cT hs hst ta ca x1) (wPd cI pd sg nm pp)).symm rfl rfl rfl hl.1 rfl (Nat.le_of_ble_eq_true rfl) dX3_swear_8 ⟨Nat.zero_le _, Nat.zero_le _⟩ (fun H locs hP hD hS => ?_)
  refine lv_aload_n hx hb dX3_swear_11 rfl (lv_at hl 0 rfl) ?_
  refine va_get (D := D) (v := .ref hs) (C := RX3) (T := TX3) (N := 4) hx hb hts iw_X3 hown hK hP 0 rfl rfl 1 (by decide) (hts _ mw_218) (fun _ h9 => h9) rfl dX3_swear_12 ?_
  refine lv_aload_n hx hb dX3_swear_15 rfl (lv_at hl 0 rfl) ?_
  refine va_get (D := D) (v := .ref o) (C := RX3) (T := TX3) (N := 4) hx hb hts iw_X3 hown hK hP 0 rfl rfl 0 (by decide) (hts _ mw_215) (fun _ h9 => h9) rfl dX3_swear_16 ?_
  refine lv_iload_n hx hb dX3_swear_19 rfl (lv_at hl 1 rfl) ?_
  obtain ⟨x3, h4, h⟩ := bE h
  refine x_MVNp (As := [.int a1]) (rest := [.ref hs]) (wr := (wX w o hs pd sl) ++ (wH cI cT hs hst ta ca x1) ++ (wPd cI pd sg nm pp)) (W1 := (wX w o hs pd sl) ++ (wT cI o a x3.2) ++ (wH cI cT hs hst ta ca x1) ++ (wPd cI pd sg nm pp)) hF (c_X2_takeOath l D cI cZ cT _ o a t a1 x3 h4) ⟨(va_cnB 1 hts (gq mw_164) rfl rfl rfl (nM_of hE 15 rfl) (hts _ mw_15) hd_X2_takeOath.2 ⟨Nat.le_of_ble_eq_true rfl, Nat.le_of_ble_eq_true rfl⟩), hts _ mw_252, hts _ mw_253⟩ hK hP hD hS hA q_T_bl (fun _ _ _ => (trivial : True)) (p4_T (wX w o hs pd sl) (wT cI o a t) (wH cI cT hs hst ta ca x1) (wPd cI pd sg nm pp)) (p4_T (wX w o hs pd sl) (wT cI o a x3.2) (wH cI cT hs hst ta ca x1) (wPd cI pd sg nm pp)).symm rfl rfl rfl hl.1 rfl (Nat.le_of_ble_eq_true rfl) dX3_swear_20 ⟨Nat.zero_le _, Nat.zero_le _⟩ (fun H locs hP hD hS => ?_)
  obtain ⟨x5, h6, h⟩ := bE h
  refine x_MVNp (As := [.int x3.1]) (rest := []) (wr := (wX w o hs pd sl) ++ (wT cI o a x3.2) ++ (wPd cI pd sg nm pp)) (W1 := (wX w o hs pd sl) ++ (wT cI o a x3.2) ++ (wH cI cT hs hst ta ca x5.2) ++ (wPd cI pd sg nm pp)) hF (c_X0_keepUnlessError l D cI cZ cT G _ hs hst ta ca x1 x3.1 x5 h6) ⟨(va_cnB 1 hts (gq mw_49) rfl rfl rfl (nM_of hE 8 rfl) (hts _ mw_33) hd_X0_keepUnlessError.2 ⟨Nat.le_of_ble_eq_true rfl, Nat.le_of_ble_eq_true rfl⟩), hts _ mw_231, hts _ mw_232⟩ hK hP hD hS hA q_E_bl (q_E_go hE hS (q_freep (p4_H (wX w o hs pd sl) (wT cI o a x3.2) (wH cI cT hs hst ta ca x1) (wPd cI pd sg nm pp)) hD hS hA)) (p4_H (wX w o hs pd sl) (wT cI o a x3.2) (wH cI cT hs hst ta ca x1) (wPd cI pd sg nm pp)) (p4_H (wX w o hs pd sl) (wT cI o a x3.2) (wH cI cT hs hst ta ca x5.2) (wPd cI pd sg nm pp)).symm rfl rfl rfl hl.1 rfl (Nat.le_of_ble_eq_true rfl) dX3_swear_23 ⟨Nat.zero_le _, Nat.zero_le _⟩ (fun H locs hP hD hS => ?_)
  cases h
  exact x_retM C0 rfl hP hD hS dX3_swear_26

/-! QuarrelWays.pass (I)I -/
def f_X3_pass (t : TT) (hh : HH) (pp : PP) (a1 : Int32) : Option (Int32 × TT × HH) := ((f_X0_note hh t).bind fun x1 => ((f_X2_moveOn t a1).bind fun x3 => ((f_X0_keepUnlessError x1 x3.1).bind fun x5 => ((f_X3_isError x5.1).bind fun x7 => (if x7 = 0 then ((f_X2_dueQuarrels x3.2).bind fun x10 => ((f_J6_bitCount_0f7a4 x10).bind fun x12 => some (x12, x3.2, x5.2))) else some (x5.1, x3.2, x5.2))))))
abbrev rm_X3_pass : Room := { frames := 5, cells := 0, slots := 0, locals := 116 }
theorem hd_X3_pass : yX3_pass.cls = RX3 ∧ yX3_pass.cls ≠ "java/lang/invoke/MethodHandle" ∧ yX3_pass.cls ≠ "java/lang/invoke/VarHandle" ∧ (parseMethodDescriptor yX3_pass.desc).map (fun d => d.parameters.length) = some 1 := by decide +kernel
set_option maxHeartbeats 4000000 in
set_option maxRecDepth 100000 in
theorem c_X3_pass (l : Launch) (D : va_G) (cI cZ cT : ClassId) (G : q_G) (sz : Nat) (w sl : Nat) (o a : Nat) (t : TT) (hs hst : Nat) (ta ca : Nat → Nat) (hh : HH) (pd sg nm : Nat) (pp : PP) (a1 : Int32) (r : Int32 × TT × HH) (h : f_X3_pass t hh pp a1 = some r) : Met l yX3_pass (wq yX3_pass cX3_pass 3 (some .int)) rm_X3_pass (q_M D (q_tys cI cZ cT) sz ((wX w o hs pd sl) ++ (wT cI o a t) ++ (wH cI cT hs hst ta ca hh) ++ (wPd cI pd sg nm pp)) (q_E G (va_A ((wX w o hs pd sl) ++ (wT cI o a t) ++ (wH cI cT hs hst ta ca hh) ++ (wPd cI pd sg nm pp)) sz)) [.ref w, .int a1]) (va_Qi (fun r' _ => r' = r.1) (q_B D ((wX w o hs pd sl) ++ (wT cI o a t) ++ (wH cI cT hs hst ta ca hh) ++ (wPd cI pd sg nm pp)) sz ((wX w o hs pd sl) ++ (wT cI o a r.2.1) ++ (wH cI cT hs hst ta ca r.2.2) ++ (wPd cI pd sg nm pp))) (va_A ((wX w o hs pd sl) ++ (wT cI o a t) ++ (wH cI cT hs hst ta ca hh) ++ (wPd cI pd sg nm pp)) sz)) 0 0 (va_A ((wX w o hs pd sl) ++ (wT cI o a t) ++ (wH cI cT hs hst ta ca hh) ++ (wPd cI pd sg nm pp)) sz) := by
  refine q_MI (cc := cX3_pass) (maxL := 3) (ret := (some .int)) (E := fun sz => (q_E G (va_A ((wX w o hs pd sl) ++ (wT cI o a t) ++ (wH cI cT hs hst ta ca hh) ++ (wPd cI pd sg nm pp)) sz))) (Qc := fun sz => (va_Qi (fun r' _ => r' = r.1) (q_B D ((wX w o hs pd sl) ++ (wT cI o a t) ++ (wH cI cT hs hst ta ca hh) ++ (wPd cI pd sg nm pp)) sz ((wX w o hs pd sl) ++ (wT cI o a r.2.1) ++ (wH cI cT hs hst ta ca r.2.2) ++ (wPd cI pd sg nm pp))) (va_A ((wX w o hs pd sl) ++ (wT cI o a t) ++ (wH cI cT hs hst ta ca hh) ++ (wPd cI pd sg nm pp)) sz))) (free := fun sz => va_A ((wX w o hs pd sl) ++ (wT cI o a t) ++ (wH cI cT hs hst ta ca hh) ++ (wPd cI pd sg nm pp)) sz) (plainFor_of_name (by decide)) (Nat.le_of_ble_eq_true rfl) (fun p e s m below meth c C0 hname hP hK hD hE ls hl => ?_)
  have hA : ∀ q, s.heap.size ≤ q → (va_A ((wX w o hs pd sl) ++ (wT cI o a t) ++ (wH cI cT hs hst ta ca hh) ++ (wPd cI pd sg nm pp)) s.heap.size) q := fun _ => Or.inr
  have hS : va_S (va_A ((wX w o hs pd sl) ++ (wT cI o a t) ++ (wH cI cT hs hst ta ca hh) ++ (wPd cI pd sg nm pp)) s.heap.size) s.heap s.heap [] := va_S.rf
  have hE : q_E G (va_A ((wX w o hs pd sl) ++ (wT cI o a t) ++ (wH cI cT hs hst ta ca hh) ++ (wPd cI pd sg nm pp)) s.heap.size) s := hE
  have hl : lv_has ls 3 [(0, .ref w), (1, .int a1)] := hl
  obtain ⟨hx, hb, hr, hml, hown, hts, hlocks⟩ := id C0
  have hF : CallFix p m c cX3_pass 3 s _ BW RX3 := ⟨hx, hb, hml, hown, hts⟩
  rw [f_X3_pass] at h
  refine lv_aload_n hx hb dX3_pass_0 rfl (lv_at hl 0 rfl) ?_
  refine va_get (D := D) (v := .ref hs) (C := RX3) (T := TX3) (N := 4) hx hb hts iw_X3 hown hK hP 0 rfl rfl 1 (by decide) (hts _ mw_218) (fun _ h9 => h9) rfl dX3_pass_1 ?_
  refine lv_aload_n hx hb dX3_pass_4 rfl (lv_at hl 0 rfl) ?_
  refine va_get (D := D) (v := .ref o) (C := RX3) (T := TX3) (N := 4) hx hb hts iw_X3 hown hK hP 0 rfl rfl 0 (by decide) (hts _ mw_215) (fun _ h9 => h9) rfl dX3_pass_5 ?_
  obtain ⟨x1, h2, h⟩ := bE h
  refine x_VVNp (As := [.ref o]) (rest := []) (wr := (wX w o hs pd sl) ++ (wPd cI pd sg nm pp)) (W1 := (wX w o hs pd sl) ++ (wT cI o a t) ++ (wH cI cT hs hst ta ca x1) ++ (wPd cI pd sg nm pp)) hF (c_X0_note l D cI cZ cT G _ hs hst ta ca hh o a t  x1 h2) ⟨(va_cnB 1 hts (gq mw_47) rfl rfl rfl (nM_of hE 6 rfl) (hts _ mw_33) hd_X0_note.2 ⟨Nat.le_of_ble_eq_true rfl, Nat.le_of_ble_eq_true rfl⟩), hts _ mw_227, hts _ mw_228⟩ hK hP hD hS hA q_E_bl (q_E_go hE hS (q_freep (p4_HT (wX w o hs pd sl) (wT cI o a t) (wH cI cT hs hst ta ca hh) (wPd cI pd sg nm pp)) hD hS hA)) (p4_HT (wX w o hs pd sl) (wT cI o a t) (wH cI cT hs hst ta ca hh) (wPd cI pd sg nm pp)) (p4_HT (wX w o hs pd sl) (wT cI o a t) (wH cI cT hs hst ta ca x1) (wPd cI pd sg nm pp)).symm rfl rfl rfl hl.1 rfl (Nat.le_of_ble_eq_true rfl) dX3_pass_8 ⟨Nat.zero_le _, Nat.zero_le _⟩ (fun H locs hP hD hS => ?_)
  refine lv_aload_n hx hb dX3_pass_11 rfl (lv_at hl 0 rfl) ?_
  refine va_get (D := D) (v := .ref hs) (C := RX3) (T := TX3) (N := 4) hx hb hts iw_X3 hown hK hP 0 rfl rfl 1 (by decide) (hts _ mw_218) (fun _ h9 => h9) rfl dX3_pass_12 ?_
  refine lv_aload_n hx hb dX3_pass_15 rfl (lv_at hl 0 rfl) ?_
  refine va_get (D := D) (v := .ref o) (C := RX3) (T := TX3) (N := 4) hx hb hts iw_X3 hown hK hP 0 rfl rfl 0 (by decide) (hts _ mw_215) (fun _ h9 => h9) rfl dX3_pass_16 ?_
  refine lv_iload_n hx hb dX3_pass_19 rfl (lv_at hl 1 rfl) ?_
  obtain ⟨x3, h4, h⟩ := bE h
  refine x_MVNp (As := [.int a1]) (rest := [.ref hs]) (wr := (wX w o hs pd sl) ++ (wH cI cT hs hst ta ca x1) ++ (wPd cI pd sg nm pp)) (W1 := (wX w o hs pd sl) ++ (wT cI o a x3.2) ++ (wH cI cT hs hst ta ca x1) ++ (wPd cI pd sg nm pp)) hF (c_X2_moveOn l D cI cZ cT _ o a t a1 x3 h4) ⟨(va_cnB 1 hts (gq mw_165) rfl rfl rfl (nM_of hE 16 rfl) (hts _ mw_15) hd_X2_moveOn.2 ⟨Nat.le_of_ble_eq_true rfl, Nat.le_of_ble_eq_true rfl⟩), hts _ mw_259, hts _ mw_260⟩ hK hP hD hS hA q_T_bl (fun _ _ _ => (trivial : True)) (p4_T (wX w o hs pd sl) (wT cI o a t) (wH cI cT hs hst ta ca x1) (wPd cI pd sg nm pp)) (p4_T (wX w o hs pd sl) (wT cI o a x3.2) (wH cI cT hs hst ta ca x1) (wPd cI pd sg nm pp)).symm rfl rfl rfl hl.1 rfl (Nat.le_of_ble_eq_true rfl) dX3_pass_20 ⟨Nat.zero_le _, Nat.zero_le _⟩ (fun H locs hP hD hS => ?_)
  obtain ⟨x5, h6, h⟩ := bE h
  refine x_MVNp (As := [.int x3.1]) (rest := []) (wr := (wX w o hs pd sl) ++ (wT cI o a x3.2) ++ (wPd cI pd sg nm pp)) (W1 := (wX w o hs pd sl) ++ (wT cI o a x3.2) ++ (wH cI cT hs hst ta ca x5.2) ++ (wPd cI pd sg nm pp)) hF (c_X0_keepUnlessError l D cI cZ cT G _ hs hst ta ca x1 x3.1 x5 h6) ⟨(va_cnB 1 hts (gq mw_49) rfl rfl rfl (nM_of hE 8 rfl) (hts _ mw_33) hd_X0_keepUnlessError.2 ⟨Nat.le_of_ble_eq_true rfl, Nat.le_of_ble_eq_true rfl⟩), hts _ mw_231, hts _ mw_232⟩ hK hP hD hS hA q_E_bl (q_E_go hE hS (q_freep (p4_H (wX w o hs pd sl) (wT cI o a x3.2) (wH cI cT hs hst ta ca x1) (wPd cI pd sg nm pp)) hD hS hA)) (p4_H (wX w o hs pd sl) (wT cI o a x3.2) (wH cI cT hs hst ta ca x1) (wPd cI pd sg nm pp)) (p4_H (wX w o hs pd sl) (wT cI o a x3.2) (wH cI cT hs hst ta ca x5.2) (wPd cI pd sg nm pp)).symm rfl rfl rfl hl.1 rfl (Nat.le_of_ble_eq_true rfl) dX3_pass_23 ⟨Nat.zero_le _, Nat.zero_le _⟩ (fun H locs hP hD hS => ?_)
  refine lv_istore_n (lv' := [(2, .int x5.1), (0, .ref w), (1, .int a1)]) hx hb dX3_pass_26 rfl hl (by decide) rfl (fun ls hl => ?_)
  refine lv_iload_n hx hb dX3_pass_27 rfl (lv_at hl 0 rfl) ?_
  obtain ⟨x7, h8, h⟩ := bE h
  refine x_RS (As := [.int x5.1]) (rest := []) hF (c_X3_isError l D cI cZ cT  x5.1 x7 h8) (va_cwS 1 hts (gqS mw_261 mw_50 mw_51 mw_48) rfl rfl rfl hd_X3_isError.2 ⟨Nat.le_of_ble_eq_true rfl, Nat.le_of_ble_eq_true rfl⟩) hK hP q_T_bl (fun _ _ _ => (trivial : True)) [] rfl rfl hl.1 rfl (Nat.le_of_ble_eq_true rfl) dX3_pass_28 ⟨Nat.zero_le _, Nat.zero_le _⟩ ?_
  refine lv_if_eq (tgt := 38) hx hb dX3_pass_31 (by decide) (fun c9 => ?_) (fun c9 => ?_)
  · have h := xt c9 h
    refine lv_aload_n hx hb dX3_pass_38 rfl (lv_at hl 1 rfl) ?_
    refine va_get (D := D) (v := .ref o) (C := RX3) (T := TX3) (N := 4) hx hb hts iw_X3 hown hK hP 0 rfl rfl 0 (by decide) (hts _ mw_215) (fun _ h9 => h9) rfl dX3_pass_39 ?_
    obtain ⟨x10, h11, h⟩ := bE h
    refine x_RVN (As := []) (rest := []) hF (c_X2_dueQuarrels l D cI cZ cT o a x3.2  x10 h11) ⟨(va_cnB 0 hts (gq mw_201) rfl rfl rfl (nM_of hE 17 rfl) (hts _ mw_15) hd_X2_dueQuarrels.2 ⟨Nat.le_of_ble_eq_true rfl, Nat.le_of_ble_eq_true rfl⟩), hts _ mw_207, hts _ mw_208⟩ hK hP q_T_bl (fun _ _ _ => (trivial : True)) [1, 2] rfl rfl rfl rfl hl.1 rfl (Nat.le_of_ble_eq_true rfl) dX3_pass_42 ⟨Nat.zero_le _, Nat.zero_le _⟩ ?_
    obtain ⟨x12, h13, h⟩ := bE h
    refine x_RS (As := [.int x10]) (rest := []) hF (c_J6_bitCount_0f7a4 l D cI cZ cT  x10 x12 h13) (va_cwS 1 hts (gqS mw_262 mw_263 mw_264 mw_255) rfl rfl rfl hd_J6_bitCount_0f7a4.2 ⟨Nat.le_of_ble_eq_true rfl, Nat.le_of_ble_eq_true rfl⟩) hK hP q_T_bl (fun _ _ _ => (trivial : True)) [] rfl rfl hl.1 rfl (Nat.le_of_ble_eq_true rfl) dX3_pass_45 ⟨Nat.zero_le _, Nat.zero_le _⟩ ?_
    cases h
    exact x_retM C0 rfl hP hD hS dX3_pass_48
  · have h := xf c9 h
    refine lv_iload_n hx hb dX3_pass_34 rfl (lv_at hl 0 rfl) ?_
    refine lv_goto (tgt := 48) hx hb dX3_pass_35 (by decide) ?_
    cases h
    exact x_retM C0 rfl hP hD hS dX3_pass_48

/-! QuarrelWays.of (II)I -/
def f_X3_of (t : TT) (hh : HH) (pp : PP) (a1 : Int32) (a2 : Int32) : Option (Int32) := ((f_X2_tellPerson t a1 a2).bind fun x1 => some x1)
abbrev rm_X3_of : Room := { frames := 3, cells := 0, slots := 0, locals := 69 }
theorem hd_X3_of : yX3_of.cls = RX3 ∧ yX3_of.cls ≠ "java/lang/invoke/MethodHandle" ∧ yX3_of.cls ≠ "java/lang/invoke/VarHandle" ∧ (parseMethodDescriptor yX3_of.desc).map (fun d => d.parameters.length) = some 2 := by decide +kernel
set_option maxHeartbeats 4000000 in
set_option maxRecDepth 100000 in
theorem c_X3_of (l : Launch) (D : va_G) (cI cZ cT : ClassId) (G : q_G) (A : Nat → Prop) (w sl : Nat) (o a : Nat) (t : TT) (hs hst : Nat) (ta ca : Nat → Nat) (hh : HH) (pd sg nm : Nat) (pp : PP) (a1 : Int32) (a2 : Int32) (r : Int32) (h : f_X3_of t hh pp a1 a2 = some r) : Met l yX3_of (wq yX3_of cX3_of 3 (some .int)) rm_X3_of (q_R D (q_tys cI cZ cT) ((wX w o hs pd sl) ++ (wT cI o a t) ++ (wH cI cT hs hst ta ca hh) ++ (wPd cI pd sg nm pp)) (q_E G A) [.ref w, .int a1, .int a2]) (vp_Si (fun r' => r' = r)) 0 0 (fun _ => False) := by
  refine q_RI (cc := cX3_of) (maxL := 3) (ret := (some .int)) (plainFor_of_name (by decide)) (Nat.le_of_ble_eq_true rfl) (fun p e s m below meth c C0 hP hK hE ls hl => ?_)
  have hE : q_E G A s := hE
  have hS : va_S A s.heap s.heap [] := va_S.rf
  have hl : lv_has ls 3 [(0, .ref w), (1, .int a1), (2, .int a2)] := hl
  obtain ⟨hx, hb, hr, hml, hown, hts, hlocks⟩ := id C0
  have hF : CallFix p m c cX3_of 3 s _ BW RX3 := ⟨hx, hb, hml, hown, hts⟩
  rw [f_X3_of] at h
  refine lv_aload_n hx hb dX3_of_0 rfl (lv_at hl 0 rfl) ?_
  refine va_get (D := D) (v := .ref o) (C := RX3) (T := TX3) (N := 4) hx hb hts iw_X3 hown hK hP 0 rfl rfl 0 (by decide) (hts _ mw_215) (fun _ h9 => h9) rfl dX3_of_1 ?_
  refine lv_iload_n hx hb dX3_of_4 rfl (lv_at hl 1 rfl) ?_
  refine lv_iload_n hx hb dX3_of_5 rfl (lv_at hl 2 rfl) ?_
  obtain ⟨x1, h2, h⟩ := bE h
  refine x_RVN (As := [.int a1, .int a2]) (rest := []) hF (c_X2_tellPerson l D cI cZ cT o a t a1 a2 x1 h2) ⟨(va_cnB 2 hts (gq mw_187) rfl rfl rfl (nM_of hE 18 rfl) (hts _ mw_15) hd_X2_tellPerson.2 ⟨Nat.le_of_ble_eq_true rfl, Nat.le_of_ble_eq_true rfl⟩), hts _ mw_266, hts _ mw_267⟩ hK hP q_T_bl (fun _ _ _ => (trivial : True)) [1, 2] rfl rfl rfl rfl hl.1 rfl (Nat.le_of_ble_eq_true rfl) dX3_of_6 ⟨Nat.zero_le _, Nat.zero_le _⟩ ?_
  cases h
  exact x_retR C0 rfl dX3_of_9

/-! QuarrelWays.quarrel (II)I -/
def f_X3_quarrel (t : TT) (hh : HH) (pp : PP) (a1 : Int32) (a2 : Int32) : Option (Int32) := ((f_X2_tellQuarrel t a1 a2).bind fun x1 => some x1)
abbrev rm_X3_quarrel : Room := { frames := 5, cells := 0, slots := 0, locals := 116 }
theorem hd_X3_quarrel : yX3_quarrel.cls = RX3 ∧ yX3_quarrel.cls ≠ "java/lang/invoke/MethodHandle" ∧ yX3_quarrel.cls ≠ "java/lang/invoke/VarHandle" ∧ (parseMethodDescriptor yX3_quarrel.desc).map (fun d => d.parameters.length) = some 2 := by decide +kernel
set_option maxHeartbeats 4000000 in
set_option maxRecDepth 100000 in
theorem c_X3_quarrel (l : Launch) (D : va_G) (cI cZ cT : ClassId) (G : q_G) (A : Nat → Prop) (w sl : Nat) (o a : Nat) (t : TT) (hs hst : Nat) (ta ca : Nat → Nat) (hh : HH) (pd sg nm : Nat) (pp : PP) (a1 : Int32) (a2 : Int32) (r : Int32) (h : f_X3_quarrel t hh pp a1 a2 = some r) : Met l yX3_quarrel (wq yX3_quarrel cX3_quarrel 3 (some .int)) rm_X3_quarrel (q_R D (q_tys cI cZ cT) ((wX w o hs pd sl) ++ (wT cI o a t) ++ (wH cI cT hs hst ta ca hh) ++ (wPd cI pd sg nm pp)) (q_E G A) [.ref w, .int a1, .int a2]) (vp_Si (fun r' => r' = r)) 0 0 (fun _ => False) := by
  refine q_RI (cc := cX3_quarrel) (maxL := 3) (ret := (some .int)) (plainFor_of_name (by decide)) (Nat.le_of_ble_eq_true rfl) (fun p e s m below meth c C0 hP hK hE ls hl => ?_)
  have hE : q_E G A s := hE
  have hS : va_S A s.heap s.heap [] := va_S.rf
  have hl : lv_has ls 3 [(0, .ref w), (1, .int a1), (2, .int a2)] := hl
  obtain ⟨hx, hb, hr, hml, hown, hts, hlocks⟩ := id C0
  have hF : CallFix p m c cX3_quarrel 3 s _ BW RX3 := ⟨hx, hb, hml, hown, hts⟩
  rw [f_X3_quarrel] at h
  refine lv_aload_n hx hb dX3_quarrel_0 rfl (lv_at hl 0 rfl) ?_
  refine va_get (D := D) (v := .ref o) (C := RX3) (T := TX3) (N := 4) hx hb hts iw_X3 hown hK hP 0 rfl rfl 0 (by decide) (hts _ mw_215) (fun _ h9 => h9) rfl dX3_quarrel_1 ?_
  refine lv_iload_n hx hb dX3_quarrel_4 rfl (lv_at hl 1 rfl) ?_
  refine lv_iload_n hx hb dX3_quarrel_5 rfl (lv_at hl 2 rfl) ?_
  obtain ⟨x1, h2, h⟩ := bE h
  refine x_RVN (As := [.int a1, .int a2]) (rest := []) hF (c_X2_tellQuarrel l D cI cZ cT o a t a1 a2 x1 h2) ⟨(va_cnB 2 hts (gq mw_188) rfl rfl rfl (nM_of hE 19 rfl) (hts _ mw_15) hd_X2_tellQuarrel.2 ⟨Nat.le_of_ble_eq_true rfl, Nat.le_of_ble_eq_true rfl⟩), hts _ mw_269, hts _ mw_270⟩ hK hP q_T_bl (fun _ _ _ => (trivial : True)) [1, 2] rfl rfl rfl rfl hl.1 rfl (Nat.le_of_ble_eq_true rfl) dX3_quarrel_6 ⟨Nat.zero_le _, Nat.zero_le _⟩ ?_
  cases h
  exact x_retR C0 rfl dX3_quarrel_9

/-! QuarrelWays.record (II)I -/
def f_X3_record (t : TT) (hh : HH) (pp : PP) (a1 : Int32) (a2 : Int32) : Option (Int32) := ((f_X2_tellEvent t a1 a2).bind fun x1 => some x1)
abbrev rm_X3_record : Room := { frames := 2, cells := 0, slots := 0, locals := 47 }
theorem hd_X3_record : yX3_record.cls = RX3 ∧ yX3_record.cls ≠ "java/lang/invoke/MethodHandle" ∧ yX3_record.cls ≠ "java/lang/invoke/VarHandle" ∧ (parseMethodDescriptor yX3_record.desc).map (fun d => d.parameters.length) = some 2 := by decide +kernel
set_option maxHeartbeats 4000000 in
set_option maxRecDepth 100000 in
theorem c_X3_record (l : Launch) (D : va_G) (cI cZ cT : ClassId) (G : q_G) (A : Nat → Prop) (w sl : Nat) (o a : Nat) (t : TT) (hs hst : Nat) (ta ca : Nat → Nat) (hh : HH) (pd sg nm : Nat) (pp : PP) (a1 : Int32) (a2 : Int32) (r : Int32) (h : f_X3_record t hh pp a1 a2 = some r) : Met l yX3_record (wq yX3_record cX3_record 3 (some .int)) rm_X3_record (q_R D (q_tys cI cZ cT) ((wX w o hs pd sl) ++ (wT cI o a t) ++ (wH cI cT hs hst ta ca hh) ++ (wPd cI pd sg nm pp)) (q_E G A) [.ref w, .int a1, .int a2]) (vp_Si (fun r' => r' = r)) 0 0 (fun _ => False) := by
  refine q_RI (cc := cX3_record) (maxL := 3) (ret := (some .int)) (plainFor_of_name (by decide)) (Nat.le_of_ble_eq_true rfl) (fun p e s m below meth c C0 hP hK hE ls hl => ?_)
  have hE : q_E G A s := hE
  have hS : va_S A s.heap s.heap [] := va_S.rf
  have hl : lv_has ls 3 [(0, .ref w), (1, .int a1), (2, .int a2)] := hl
  obtain ⟨hx, hb, hr, hml, hown, hts, hlocks⟩ := id C0
  have hF : CallFix p m c cX3_record 3 s _ BW RX3 := ⟨hx, hb, hml, hown, hts⟩
  rw [f_X3_record] at h
  refine lv_aload_n hx hb dX3_record_0 rfl (lv_at hl 0 rfl) ?_
  refine va_get (D := D) (v := .ref o) (C := RX3) (T := TX3) (N := 4) hx hb hts iw_X3 hown hK hP 0 rfl rfl 0 (by decide) (hts _ mw_215) (fun _ h9 => h9) rfl dX3_record_1 ?_
  refine lv_iload_n hx hb dX3_record_4 rfl (lv_at hl 1 rfl) ?_
  refine lv_iload_n hx hb dX3_record_5 rfl (lv_at hl 2 rfl) ?_
  obtain ⟨x1, h2, h⟩ := bE h
  refine x_RVN (As := [.int a1, .int a2]) (rest := []) hF (c_X2_tellEvent l D cI cZ cT o a t a1 a2 x1 h2) ⟨(va_cnB 2 hts (gq mw_189) rfl rfl rfl (nM_of hE 20 rfl) (hts _ mw_15) hd_X2_tellEvent.2 ⟨Nat.le_of_ble_eq_true rfl, Nat.le_of_ble_eq_true rfl⟩), hts _ mw_273, hts _ mw_274⟩ hK hP q_T_bl (fun _ _ _ => (trivial : True)) [1, 2] rfl rfl rfl rfl hl.1 rfl (Nat.le_of_ble_eq_true rfl) dX3_record_6 ⟨Nat.zero_le _, Nat.zero_le _⟩ ?_
  cases h
  exact x_retR C0 rfl dX3_record_9

/-! QuarrelWays.pressing (I)I -/
def f_X3_pressing (t : TT) (hh : HH) (pp : PP) (a1 : Int32) : Option (Int32) := ((f_X2_quarrelThatPresses t a1).bind fun x1 => some x1)
abbrev rm_X3_pressing : Room := { frames := 5, cells := 0, slots := 0, locals := 111 }
theorem hd_X3_pressing : yX3_pressing.cls = RX3 ∧ yX3_pressing.cls ≠ "java/lang/invoke/MethodHandle" ∧ yX3_pressing.cls ≠ "java/lang/invoke/VarHandle" ∧ (parseMethodDescriptor yX3_pressing.desc).map (fun d => d.parameters.length) = some 1 := by decide +kernel
set_option maxHeartbeats 4000000 in
set_option maxRecDepth 100000 in
theorem c_X3_pressing (l : Launch) (D : va_G) (cI cZ cT : ClassId) (G : q_G) (A : Nat → Prop) (w sl : Nat) (o a : Nat) (t : TT) (hs hst : Nat) (ta ca : Nat → Nat) (hh : HH) (pd sg nm : Nat) (pp : PP) (a1 : Int32) (r : Int32) (h : f_X3_pressing t hh pp a1 = some r) : Met l yX3_pressing (wq yX3_pressing cX3_pressing 2 (some .int)) rm_X3_pressing (q_R D (q_tys cI cZ cT) ((wX w o hs pd sl) ++ (wT cI o a t) ++ (wH cI cT hs hst ta ca hh) ++ (wPd cI pd sg nm pp)) (q_E G A) [.ref w, .int a1]) (vp_Si (fun r' => r' = r)) 0 0 (fun _ => False) := by
  refine q_RI (cc := cX3_pressing) (maxL := 2) (ret := (some .int)) (plainFor_of_name (by decide)) (Nat.le_of_ble_eq_true rfl) (fun p e s m below meth c C0 hP hK hE ls hl => ?_)
  have hE : q_E G A s := hE
  have hS : va_S A s.heap s.heap [] := va_S.rf
  have hl : lv_has ls 2 [(0, .ref w), (1, .int a1)] := hl
  obtain ⟨hx, hb, hr, hml, hown, hts, hlocks⟩ := id C0
  have hF : CallFix p m c cX3_pressing 2 s _ BW RX3 := ⟨hx, hb, hml, hown, hts⟩
  rw [f_X3_pressing] at h
  refine lv_aload_n hx hb dX3_pressing_0 rfl (lv_at hl 0 rfl) ?_
  refine va_get (D := D) (v := .ref o) (C := RX3) (T := TX3) (N := 4) hx hb hts iw_X3 hown hK hP 0 rfl rfl 0 (by decide) (hts _ mw_215) (fun _ h9 => h9) rfl dX3_pressing_1 ?_
  refine lv_iload_n hx hb dX3_pressing_4 rfl (lv_at hl 1 rfl) ?_
  obtain ⟨x1, h2, h⟩ := bE h
  refine x_RVN (As := [.int a1]) (rest := []) hF (c_X2_quarrelThatPresses l D cI cZ cT o a t a1 x1 h2) ⟨(va_cnB 1 hts (gq mw_195) rfl rfl rfl (nM_of hE 21 rfl) (hts _ mw_15) hd_X2_quarrelThatPresses.2 ⟨Nat.le_of_ble_eq_true rfl, Nat.le_of_ble_eq_true rfl⟩), hts _ mw_275, hts _ mw_276⟩ hK hP q_T_bl (fun _ _ _ => (trivial : True)) [1, 2] rfl rfl rfl rfl hl.1 rfl (Nat.le_of_ble_eq_true rfl) dX3_pressing_5 ⟨Nat.zero_le _, Nat.zero_le _⟩ ?_
  cases h
  exact x_retR C0 rfl dX3_pressing_8

/-! QuarrelWays.insults (I)I -/
def f_X3_insults (t : TT) (hh : HH) (pp : PP) (a1 : Int32) : Option (Int32) := ((f_X2_insultsFrom t a1).bind fun x1 => some x1)
abbrev rm_X3_insults : Room := { frames := 2, cells := 0, slots := 0, locals := 46 }
theorem hd_X3_insults : yX3_insults.cls = RX3 ∧ yX3_insults.cls ≠ "java/lang/invoke/MethodHandle" ∧ yX3_insults.cls ≠ "java/lang/invoke/VarHandle" ∧ (parseMethodDescriptor yX3_insults.desc).map (fun d => d.parameters.length) = some 1 := by decide +kernel
set_option maxHeartbeats 4000000 in
set_option maxRecDepth 100000 in
theorem c_X3_insults (l : Launch) (D : va_G) (cI cZ cT : ClassId) (G : q_G) (A : Nat → Prop) (w sl : Nat) (o a : Nat) (t : TT) (hs hst : Nat) (ta ca : Nat → Nat) (hh : HH) (pd sg nm : Nat) (pp : PP) (a1 : Int32) (r : Int32) (h : f_X3_insults t hh pp a1 = some r) : Met l yX3_insults (wq yX3_insults cX3_insults 2 (some .int)) rm_X3_insults (q_R D (q_tys cI cZ cT) ((wX w o hs pd sl) ++ (wT cI o a t) ++ (wH cI cT hs hst ta ca hh) ++ (wPd cI pd sg nm pp)) (q_E G A) [.ref w, .int a1]) (vp_Si (fun r' => r' = r)) 0 0 (fun _ => False) := by
  refine q_RI (cc := cX3_insults) (maxL := 2) (ret := (some .int)) (plainFor_of_name (by decide)) (Nat.le_of_ble_eq_true rfl) (fun p e s m below meth c C0 hP hK hE ls hl => ?_)
  have hE : q_E G A s := hE
  have hS : va_S A s.heap s.heap [] := va_S.rf
  have hl : lv_has ls 2 [(0, .ref w), (1, .int a1)] := hl
  obtain ⟨hx, hb, hr, hml, hown, hts, hlocks⟩ := id C0
  have hF : CallFix p m c cX3_insults 2 s _ BW RX3 := ⟨hx, hb, hml, hown, hts⟩
  rw [f_X3_insults] at h
  refine lv_aload_n hx hb dX3_insults_0 rfl (lv_at hl 0 rfl) ?_
  refine va_get (D := D) (v := .ref o) (C := RX3) (T := TX3) (N := 4) hx hb hts iw_X3 hown hK hP 0 rfl rfl 0 (by decide) (hts _ mw_215) (fun _ h9 => h9) rfl dX3_insults_1 ?_
  refine lv_iload_n hx hb dX3_insults_4 rfl (lv_at hl 1 rfl) ?_
  obtain ⟨x1, h2, h⟩ := bE h
  refine x_RVN (As := [.int a1]) (rest := []) hF (c_X2_insultsFrom l D cI cZ cT o a t a1 x1 h2) ⟨(va_cnB 1 hts (gq mw_199) rfl rfl rfl (nM_of hE 22 rfl) (hts _ mw_15) hd_X2_insultsFrom.2 ⟨Nat.le_of_ble_eq_true rfl, Nat.le_of_ble_eq_true rfl⟩), hts _ mw_279, hts _ mw_280⟩ hK hP q_T_bl (fun _ _ _ => (trivial : True)) [1, 2] rfl rfl rfl rfl hl.1 rfl (Nat.le_of_ble_eq_true rfl) dX3_insults_5 ⟨Nat.zero_le _, Nat.zero_le _⟩ ?_
  cases h
  exact x_retR C0 rfl dX3_insults_8

end G_X1

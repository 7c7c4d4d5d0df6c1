section G_Y
variable {p : Program} {l : Launch} {e : Env} {s : State} {m : MethodId} {args : Array Value} {below : List Frame} {meth : Method} {c : Code} {D : va_G} {cI cZ cT : ClassId}

/-! QuarrelWays.carryOutOrder ()I -/
def f_X3_carryOutOrder (t : TT) (hh : HH) (pp : PP) : Option (Int32 × TT) := ((f_X1_number pp (0 : Int32)).bind fun x1 => ((f_X1_number pp (1 : Int32)).bind fun x3 => (if pp.2.2.2.1 = (97 : Int32) then ((f_X2_allowOrBar t x1).bind fun x7 => some (x7.1, x7.2)) else (if pp.2.2.2.1 = (98 : Int32) then some ((-3 : Int32), t) else (if pp.2.2.2.1 = (99 : Int32) then some ((-3 : Int32), t) else (if pp.2.2.2.1 = (100 : Int32) then some ((-3 : Int32), t) else (if pp.2.2.2.1 = (101 : Int32) then some ((-3 : Int32), t) else (if pp.2.2.2.1 = (102 : Int32) then ((f_X2_duel t x1).bind fun x14 => some (x14.1, x14.2)) else (if pp.2.2.2.1 = (103 : Int32) then some ((-3 : Int32), t) else (if pp.2.2.2.1 = (104 : Int32) then some ((-3 : Int32), t) else (if pp.2.2.2.1 = (105 : Int32) then ((f_X1_number pp (2 : Int32)).bind fun x19 => ((f_X2_addQuarrel t x1 x3 x19).bind fun x21 => some (x21.1, x21.2))) else (if pp.2.2.2.1 = (106 : Int32) then some ((-3 : Int32), t) else (if pp.2.2.2.1 = (107 : Int32) then some ((-3 : Int32), t) else (if pp.2.2.2.1 = (108 : Int32) then some ((-3 : Int32), t) else (if pp.2.2.2.1 = (109 : Int32) then some ((-3 : Int32), t) else (if pp.2.2.2.1 = (110 : Int32) then some ((-3 : Int32), t) else (if pp.2.2.2.1 = (111 : Int32) then ((f_X2_takeOath t x1).bind fun x29 => some (x29.1, x29.2)) else (if pp.2.2.2.1 = (112 : Int32) then ((f_X2_addPerson t x1 x3).bind fun x32 => some (x32.1, x32.2)) else (if pp.2.2.2.1 = (113 : Int32) then some ((-3 : Int32), t) else (if pp.2.2.2.1 = (114 : Int32) then some ((-3 : Int32), t) else (if pp.2.2.2.1 = (115 : Int32) then ((f_X2_takeSecond t x1 x3).bind fun x37 => some (x37.1, x37.2)) else (if pp.2.2.2.1 = (116 : Int32) then ((f_X2_moveOn t x1).bind fun x40 => some (x40.1, x40.2)) else (if pp.2.2.2.1 = (117 : Int32) then some ((-3 : Int32), t) else (if pp.2.2.2.1 = (118 : Int32) then some ((-3 : Int32), t) else (if pp.2.2.2.1 = (119 : Int32) then ((f_X2_settleBy t x1 x3).bind fun x45 => some (x45.1, x45.2)) else some ((-3 : Int32), t))))))))))))))))))))))))))
abbrev rm_X3_carryOutOrder : Room := { frames := 5, cells := 0, slots := 0, locals := 118 }
theorem hd_X3_carryOutOrder : yX3_carryOutOrder.cls = RX3 ∧ yX3_carryOutOrder.cls ≠ "java/lang/invoke/MethodHandle" ∧ yX3_carryOutOrder.cls ≠ "java/lang/invoke/VarHandle" ∧ (parseMethodDescriptor yX3_carryOutOrder.desc).map (fun d => d.parameters.length) = some 0 := by decide +kernel
set_option maxHeartbeats 4000000 in
set_option maxRecDepth 100000 in
theorem c_X3_carryOutOrder (l : Launch) (D : va_G) (cI cZ cT : ClassId) (G : q_G) (sz : Nat) (w sl : Nat) (o a : Nat) (t : TT) (hs hst : Nat) (ta ca : Nat → Nat) (hh : HH) (pd sg nm : Nat) (pp : PP) (r : Int32 × TT) (h : f_X3_carryOutOrder t hh pp = some r) : Met l yX3_carryOutOrder (wq yX3_carryOutOrder cX3_carryOutOrder 3 (some .int)) rm_X3_carryOutOrder (q_M D (q_tys cI cZ cT) sz ((wX w o hs pd sl) ++ (wT cI o a t) ++ (wH cI cT hs hst ta ca hh) ++ (wPd cI pd sg nm pp)) (q_E G (va_A ((wX w o hs pd sl) ++ (wT cI o a t) ++ (wH cI cT hs hst ta ca hh) ++ (wPd cI pd sg nm pp)) sz)) [.ref w]) (va_Qi (fun r' _ => r' = r.1) (q_B D ((wX w o hs pd sl) ++ (wT cI o a t) ++ (wH cI cT hs hst ta ca hh) ++ (wPd cI pd sg nm pp)) sz ((wX w o hs pd sl) ++ (wT cI o a r.2) ++ (wH cI cT hs hst ta ca hh) ++ (wPd cI pd sg nm pp))) (va_A ((wX w o hs pd sl) ++ (wT cI o a t) ++ (wH cI cT hs hst ta ca hh) ++ (wPd cI pd sg nm pp)) sz)) 0 0 (va_A ((wX w o hs pd sl) ++ (wT cI o a t) ++ (wH cI cT hs hst ta ca hh) ++ (wPd cI pd sg nm pp)) sz) := by
  refine q_MI (cc := cX3_carryOutOrder) (maxL := 3) (ret := (some .int)) (E := fun sz => (q_E G (va_A ((wX w o hs pd sl) ++ (wT cI o a t) ++ (wH cI cT hs hst ta ca hh) ++ (wPd cI pd sg nm pp)) sz))) (Qc := fun sz => (va_Qi (fun r' _ => r' = r.1) (q_B D ((wX w o hs pd sl) ++ (wT cI o a t) ++ (wH cI cT hs hst ta ca hh) ++ (wPd cI pd sg nm pp)) sz ((wX w o hs pd sl) ++ (wT cI o a r.2) ++ (wH cI cT hs hst ta ca hh) ++ (wPd cI pd sg nm pp))) (va_A ((wX w o hs pd sl) ++ (wT cI o a t) ++ (wH cI cT hs hst ta ca hh) ++ (wPd cI pd sg nm pp)) sz))) (free := fun sz => va_A ((wX w o hs pd sl) ++ (wT cI o a t) ++ (wH cI cT hs hst ta ca hh) ++ (wPd cI pd sg nm pp)) sz) (plainFor_of_name (by decide)) (Nat.le_of_ble_eq_true rfl) (fun p e s m below meth c C0 hname hP hK hD hE ls hl => ?_)
  have hA : ∀ q, s.heap.size ≤ q → (va_A ((wX w o hs pd sl) ++ (wT cI o a t) ++ (wH cI cT hs hst ta ca hh) ++ (wPd cI pd sg nm pp)) s.heap.size) q := fun _ => Or.inr
  have hS : va_S (va_A ((wX w o hs pd sl) ++ (wT cI o a t) ++ (wH cI cT hs hst ta ca hh) ++ (wPd cI pd sg nm pp)) s.heap.size) s.heap s.heap [] := va_S.rf
  have hE : q_E G (va_A ((wX w o hs pd sl) ++ (wT cI o a t) ++ (wH cI cT hs hst ta ca hh) ++ (wPd cI pd sg nm pp)) s.heap.size) s := hE
  have hl : lv_has ls 3 [(0, .ref w)] := hl
  obtain ⟨hx, hb, hr, hml, hown, hts, hlocks⟩ := id C0
  have hF : CallFix p m c cX3_carryOutOrder 3 s _ BW RX3 := ⟨hx, hb, hml, hown, hts⟩
  rw [f_X3_carryOutOrder] at h
  refine lv_aload_n hx hb dX3_carryOutOrder_0 rfl (lv_at hl 0 rfl) ?_
  refine va_get (D := D) (v := .ref pd) (C := RX3) (T := TX3) (N := 4) hx hb hts iw_X3 hown hK hP 0 rfl rfl 2 (by decide) (hts _ mw_313) (fun _ h9 => h9) rfl dX3_carryOutOrder_1 ?_
  refine lv_iconst (v := 0) hx hb dX3_carryOutOrder_4 (by decide) ?_
  obtain ⟨x1, h2, h⟩ := bE h
  refine x_RVN (As := [.int (0 : Int32)]) (rest := []) hF (c_X1_number l D cI cZ cT pd sg nm pp (0 : Int32) x1 h2) ⟨(va_cnB 1 hts (gq mw_72) rfl rfl rfl (nM_of hE 41 rfl) (hts _ mw_70) hd_X1_number.2 ⟨Nat.le_of_ble_eq_true rfl, Nat.le_of_ble_eq_true rfl⟩), hts _ mw_394, hts _ mw_395⟩ hK hP q_T_bl (fun _ _ _ => (trivial : True)) [19, 20, 21] rfl rfl rfl rfl hl.1 rfl (Nat.le_of_ble_eq_true rfl) dX3_carryOutOrder_5 ⟨Nat.zero_le _, Nat.zero_le _⟩ ?_
  refine lv_istore_n (lv' := [(1, .int x1), (0, .ref w)]) hx hb dX3_carryOutOrder_8 rfl hl (by decide) rfl (fun ls hl => ?_)
  refine lv_aload_n hx hb dX3_carryOutOrder_9 rfl (lv_at hl 1 rfl) ?_
  refine va_get (D := D) (v := .ref pd) (C := RX3) (T := TX3) (N := 4) hx hb hts iw_X3 hown hK hP 0 rfl rfl 2 (by decide) (hts _ mw_313) (fun _ h9 => h9) rfl dX3_carryOutOrder_10 ?_
  refine lv_iconst (v := 1) hx hb dX3_carryOutOrder_13 (by decide) ?_
  obtain ⟨x3, h4, h⟩ := bE h
  refine x_RVN (As := [.int (1 : Int32)]) (rest := []) hF (c_X1_number l D cI cZ cT pd sg nm pp (1 : Int32) x3 h4) ⟨(va_cnB 1 hts (gq mw_72) rfl rfl rfl (nM_of hE 41 rfl) (hts _ mw_70) hd_X1_number.2 ⟨Nat.le_of_ble_eq_true rfl, Nat.le_of_ble_eq_true rfl⟩), hts _ mw_394, hts _ mw_395⟩ hK hP q_T_bl (fun _ _ _ => (trivial : True)) [19, 20, 21] rfl rfl rfl rfl hl.1 rfl (Nat.le_of_ble_eq_true rfl) dX3_carryOutOrder_14 ⟨Nat.zero_le _, Nat.zero_le _⟩ ?_
  refine lv_istore_n (lv' := [(2, .int x3), (1, .int x1), (0, .ref w)]) hx hb dX3_carryOutOrder_17 rfl hl (by decide) rfl (fun ls hl => ?_)
  refine lv_aload_n hx hb dX3_carryOutOrder_18 rfl (lv_at hl 2 rfl) ?_
  refine va_get (D := D) (v := .ref pd) (C := RX3) (T := TX3) (N := 4) hx hb hts iw_X3 hown hK hP 0 rfl rfl 2 (by decide) (hts _ mw_313) (fun _ h9 => h9) rfl dX3_carryOutOrder_19 ?_
  refine va_getN (D := D) (v := .int pp.2.2.2.1) (C := RX1) (T := TX1) (N := 6) hx hb hts iw_X1 hown hK hP 19 rfl rfl 3 (by decide) (nF_of hE 4 rfl) (fun _ h9 => h9) rfl dX3_carryOutOrder_22 ?_
  by_cases c6 : pp.2.2.2.1 = (97 : Int32)
  · have h := xt c6 h
    refine lv_tableIn (tgt := 207) hx hb dX3_carryOutOrder_25 (by rw [c6]; decide) (by rw [c6]; decide) (off := 182) (by rw [c6]; rfl) (by decide) ?_
    refine lv_aload_n hx hb dX3_carryOutOrder_207 rfl (lv_at hl 2 rfl) ?_
    refine va_get (D := D) (v := .ref o) (C := RX3) (T := TX3) (N := 4) hx hb hts iw_X3 hown hK hP 0 rfl rfl 0 (by decide) (hts _ mw_307) (fun _ h9 => h9) rfl dX3_carryOutOrder_208 ?_
    refine lv_iload_n hx hb dX3_carryOutOrder_211 rfl (lv_at hl 1 rfl) ?_
    obtain ⟨x7, h8, h⟩ := bE h
    refine x_MVNp (As := [.int x1]) (rest := []) (wr := (wX w o hs pd sl) ++ (wH cI cT hs hst ta ca hh) ++ (wPd cI pd sg nm pp)) (W1 := (wX w o hs pd sl) ++ (wT cI o a x7.2) ++ (wH cI cT hs hst ta ca hh) ++ (wPd cI pd sg nm pp)) hF (c_X2_allowOrBar l D cI cZ cT _ o a t x1 x7 h8) ⟨(va_cnB 1 hts (gq mw_179) rfl rfl rfl (nM_of hE 11 rfl) (hts _ mw_15) hd_X2_allowOrBar.2 ⟨Nat.le_of_ble_eq_true rfl, Nat.le_of_ble_eq_true rfl⟩), hts _ mw_331, hts _ mw_332⟩ hK hP hD hS hA q_T_bl (fun _ _ _ => (trivial : True)) (p4_T (wX w o hs pd sl) (wT cI o a t) (wH cI cT hs hst ta ca hh) (wPd cI pd sg nm pp)) (p4_T (wX w o hs pd sl) (wT cI o a x7.2) (wH cI cT hs hst ta ca hh) (wPd cI pd sg nm pp)).symm rfl rfl rfl hl.1 rfl (Nat.le_of_ble_eq_true rfl) dX3_carryOutOrder_212 ⟨Nat.zero_le _, Nat.zero_le _⟩ (fun H locs hP hD hS => ?_)
    cases h
    exact x_retM C0 rfl hP hD hS dX3_carryOutOrder_215
  have h := xf c6 h
  by_cases c9 : pp.2.2.2.1 = (98 : Int32)
  · have h := xt c9 h
    refine lv_tableIn (tgt := 216) hx hb dX3_carryOutOrder_25 (by rw [c9]; decide) (by rw [c9]; decide) (off := 191) (by rw [c9]; rfl) (by decide) ?_
    refine lv_bipush (v := (-3)) hx hb dX3_carryOutOrder_216 (by decide) ?_
    cases h
    exact x_retM C0 rfl hP hD hS dX3_carryOutOrder_218
  have h := xf c9 h
  by_cases c10 : pp.2.2.2.1 = (99 : Int32)
  · have h := xt c10 h
    refine lv_tableIn (tgt := 216) hx hb dX3_carryOutOrder_25 (by rw [c10]; decide) (by rw [c10]; decide) (off := 191) (by rw [c10]; rfl) (by decide) ?_
    refine lv_bipush (v := (-3)) hx hb dX3_carryOutOrder_216 (by decide) ?_
    cases h
    exact x_retM C0 rfl hP hD hS dX3_carryOutOrder_218
  have h := xf c10 h
  by_cases c11 : pp.2.2.2.1 = (100 : Int32)
  · have h := xt c11 h
    refine lv_tableIn (tgt := 216) hx hb dX3_carryOutOrder_25 (by rw [c11]; decide) (by rw [c11]; decide) (off := 191) (by rw [c11]; rfl) (by decide) ?_
    refine lv_bipush (v := (-3)) hx hb dX3_carryOutOrder_216 (by decide) ?_
    cases h
    exact x_retM C0 rfl hP hD hS dX3_carryOutOrder_218
  have h := xf c11 h
  by_cases c12 : pp.2.2.2.1 = (101 : Int32)
  · have h := xt c12 h
    refine lv_tableIn (tgt := 216) hx hb dX3_carryOutOrder_25 (by rw [c12]; decide) (by rw [c12]; decide) (off := 191) (by rw [c12]; rfl) (by decide) ?_
    refine lv_bipush (v := (-3)) hx hb dX3_carryOutOrder_216 (by decide) ?_
    cases h
    exact x_retM C0 rfl hP hD hS dX3_carryOutOrder_218
  have h := xf c12 h
  by_cases c13 : pp.2.2.2.1 = (102 : Int32)
  · have h := xt c13 h
    refine lv_tableIn (tgt := 180) hx hb dX3_carryOutOrder_25 (by rw [c13]; decide) (by rw [c13]; decide) (off := 155) (by rw [c13]; rfl) (by decide) ?_
    refine lv_aload_n hx hb dX3_carryOutOrder_180 rfl (lv_at hl 2 rfl) ?_
    refine va_get (D := D) (v := .ref o) (C := RX3) (T := TX3) (N := 4) hx hb hts iw_X3 hown hK hP 0 rfl rfl 0 (by decide) (hts _ mw_307) (fun _ h9 => h9) rfl dX3_carryOutOrder_181 ?_
    refine lv_iload_n hx hb dX3_carryOutOrder_184 rfl (lv_at hl 1 rfl) ?_
    obtain ⟨x14, h15, h⟩ := bE h
    refine x_MVNp (As := [.int x1]) (rest := []) (wr := (wX w o hs pd sl) ++ (wH cI cT hs hst ta ca hh) ++ (wPd cI pd sg nm pp)) (W1 := (wX w o hs pd sl) ++ (wT cI o a x14.2) ++ (wH cI cT hs hst ta ca hh) ++ (wPd cI pd sg nm pp)) hF (c_X2_duel l D cI cZ cT _ o a t x1 x14 h15) ⟨(va_cnB 1 hts (gq mw_255) rfl rfl rfl (nM_of hE 14 rfl) (hts _ mw_15) hd_X2_duel.2 ⟨Nat.le_of_ble_eq_true rfl, Nat.le_of_ble_eq_true rfl⟩), hts _ mw_340, hts _ mw_341⟩ hK hP hD hS hA q_T_bl (fun _ _ _ => (trivial : True)) (p4_T (wX w o hs pd sl) (wT cI o a t) (wH cI cT hs hst ta ca hh) (wPd cI pd sg nm pp)) (p4_T (wX w o hs pd sl) (wT cI o a x14.2) (wH cI cT hs hst ta ca hh) (wPd cI pd sg nm pp)).symm rfl rfl rfl hl.1 rfl (Nat.le_of_ble_eq_true rfl) dX3_carryOutOrder_185 ⟨Nat.zero_le _, Nat.zero_le _⟩ (fun H locs hP hD hS => ?_)
    cases h
    exact x_retM C0 rfl hP hD hS dX3_carryOutOrder_188
  have h := xf c13 h
  by_cases c16 : pp.2.2.2.1 = (103 : Int32)
  · have h := xt c16 h
    refine lv_tableIn (tgt := 216) hx hb dX3_carryOutOrder_25 (by rw [c16]; decide) (by rw [c16]; decide) (off := 191) (by rw [c16]; rfl) (by decide) ?_
    refine lv_bipush (v := (-3)) hx hb dX3_carryOutOrder_216 (by decide) ?_
    cases h
    exact x_retM C0 rfl hP hD hS dX3_carryOutOrder_218
  have h := xf c16 h
  by_cases c17 : pp.2.2.2.1 = (104 : Int32)
  · have h := xt c17 h
    refine lv_tableIn (tgt := 216) hx hb dX3_carryOutOrder_25 (by rw [c17]; decide) (by rw [c17]; decide) (off := 191) (by rw [c17]; rfl) (by decide) ?_
    refine lv_bipush (v := (-3)) hx hb dX3_carryOutOrder_216 (by decide) ?_
    cases h
    exact x_retM C0 rfl hP hD hS dX3_carryOutOrder_218
  have h := xf c17 h
  by_cases c18 : pp.2.2.2.1 = (105 : Int32)
  · have h := xt c18 h
    refine lv_tableIn (tgt := 152) hx hb dX3_carryOutOrder_25 (by rw [c18]; decide) (by rw [c18]; decide) (off := 127) (by rw [c18]; rfl) (by decide) ?_
    refine lv_aload_n hx hb dX3_carryOutOrder_152 rfl (lv_at hl 2 rfl) ?_
    refine va_get (D := D) (v := .ref o) (C := RX3) (T := TX3) (N := 4) hx hb hts iw_X3 hown hK hP 0 rfl rfl 0 (by decide) (hts _ mw_307) (fun _ h9 => h9) rfl dX3_carryOutOrder_153 ?_
    refine lv_iload_n hx hb dX3_carryOutOrder_156 rfl (lv_at hl 1 rfl) ?_
    refine lv_iload_n hx hb dX3_carryOutOrder_157 rfl (lv_at hl 0 rfl) ?_
    refine lv_aload_n hx hb dX3_carryOutOrder_158 rfl (lv_at hl 2 rfl) ?_
    refine va_get (D := D) (v := .ref pd) (C := RX3) (T := TX3) (N := 4) hx hb hts iw_X3 hown hK hP 0 rfl rfl 2 (by decide) (hts _ mw_313) (fun _ h9 => h9) rfl dX3_carryOutOrder_159 ?_
    refine lv_iconst (v := 2) hx hb dX3_carryOutOrder_162 (by decide) ?_
    obtain ⟨x19, h20, h⟩ := bE h
    refine x_RVN (As := [.int (2 : Int32)]) (rest := [.int x3, .int x1, .ref o]) hF (c_X1_number l D cI cZ cT pd sg nm pp (2 : Int32) x19 h20) ⟨(va_cnB 1 hts (gq mw_72) rfl rfl rfl (nM_of hE 41 rfl) (hts _ mw_70) hd_X1_number.2 ⟨Nat.le_of_ble_eq_true rfl, Nat.le_of_ble_eq_true rfl⟩), hts _ mw_394, hts _ mw_395⟩ hK hP q_T_bl (fun _ _ _ => (trivial : True)) [19, 20, 21] rfl rfl rfl rfl hl.1 rfl (Nat.le_of_ble_eq_true rfl) dX3_carryOutOrder_163 ⟨Nat.zero_le _, Nat.zero_le _⟩ ?_
    obtain ⟨x21, h22, h⟩ := bE h
    refine x_MVNp (As := [.int x1, .int x3, .int x19]) (rest := []) (wr := (wX w o hs pd sl) ++ (wH cI cT hs hst ta ca hh) ++ (wPd cI pd sg nm pp)) (W1 := (wX w o hs pd sl) ++ (wT cI o a x21.2) ++ (wH cI cT hs hst ta ca hh) ++ (wPd cI pd sg nm pp)) hF (c_X2_addQuarrel l D cI cZ cT _ o a t x1 x3 x19 x21 h22) ⟨(va_cnB 3 hts (gq mw_200) rfl rfl rfl (nM_of hE 12 rfl) (hts _ mw_15) hd_X2_addQuarrel.2 ⟨Nat.le_of_ble_eq_true rfl, Nat.le_of_ble_eq_true rfl⟩), hts _ mw_334, hts _ mw_335⟩ hK hP hD hS hA q_T_bl (fun _ _ _ => (trivial : True)) (p4_T (wX w o hs pd sl) (wT cI o a t) (wH cI cT hs hst ta ca hh) (wPd cI pd sg nm pp)) (p4_T (wX w o hs pd sl) (wT cI o a x21.2) (wH cI cT hs hst ta ca hh) (wPd cI pd sg nm pp)).symm rfl rfl rfl hl.1 rfl (Nat.le_of_ble_eq_true rfl) dX3_carryOutOrder_166 ⟨Nat.zero_le _, Nat.zero_le _⟩ (fun H locs hP hD hS => ?_)
    cases h
    exact x_retM C0 rfl hP hD hS dX3_carryOutOrder_169
  have h := xf c18 h
  by_cases c23 : pp.2.2.2.1 = (106 : Int32)
  · have h := xt c23 h
    refine lv_tableIn (tgt := 216) hx hb dX3_carryOutOrder_25 (by rw [c23]; decide) (by rw [c23]; decide) (off := 191) (by rw [c23]; rfl) (by decide) ?_
    refine lv_bipush (v := (-3)) hx hb dX3_carryOutOrder_216 (by decide) ?_
    cases h
    exact x_retM C0 rfl hP hD hS dX3_carryOutOrder_218
  have h := xf c23 h
  by_cases c24 : pp.2.2.2.1 = (107 : Int32)
  · have h := xt c24 h
    refine lv_tableIn (tgt := 216) hx hb dX3_carryOutOrder_25 (by rw [c24]; decide) (by rw [c24]; decide) (off := 191) (by rw [c24]; rfl) (by decide) ?_
    refine lv_bipush (v := (-3)) hx hb dX3_carryOutOrder_216 (by decide) ?_
    cases h
    exact x_retM C0 rfl hP hD hS dX3_carryOutOrder_218
  have h := xf c24 h
  by_cases c25 : pp.2.2.2.1 = (108 : Int32)
  · have h := xt c25 h
    refine lv_tableIn (tgt := 216) hx hb dX3_carryOutOrder_25 (by rw [c25]; decide) (by rw [c25]; decide) (off := 191) (by rw [c25]; rfl) (by decide) ?_
    refine lv_bipush (v := (-3)) hx hb dX3_carryOutOrder_216 (by decide) ?_
    cases h
    exact x_retM C0 rfl hP hD hS dX3_carryOutOrder_218
  have h := xf c25 h
  by_cases c26 : pp.2.2.2.1 = (109 : Int32)
  · have h := xt c26 h
    refine lv_tableIn (tgt := 216) hx hb dX3_carryOutOrder_25 (by rw [c26]; decide) (by rw [c26]; decide) (off := 191) (by rw [c26]; rfl) (by decide) ?_
    refine lv_bipush (v := (-3)) hx hb dX3_carryOutOrder_216 (by decide) ?_
    cases h
    exact x_retM C0 rfl hP hD hS dX3_carryOutOrder_218
  have h := xf c26 h
  by_cases c27 : pp.2.2.2.1 = (110 : Int32)
  · have h := xt c27 h
    refine lv_tableIn (tgt := 216) hx hb dX3_carryOutOrder_25 (by rw [c27]; decide) (by rw [c27]; decide) (off := 191) (by rw [c27]; rfl) (by decide) ?_
    refine lv_bipush (v := (-3)) hx hb dX3_carryOutOrder_216 (by decide) ?_
    cases h
    exact x_retM C0 rfl hP hD hS dX3_carryOutOrder_218
  have h := xf c27 h
  by_cases c28 : pp.2.2.2.1 = (111 : Int32)
  · have h := xt c28 h
    refine lv_tableIn (tgt := 189) hx hb dX3_carryOutOrder_25 (by rw [c28]; decide) (by rw [c28]; decide) (off := 164) (by rw [c28]; rfl) (by decide) ?_
    refine lv_aload_n hx hb dX3_carryOutOrder_189 rfl (lv_at hl 2 rfl) ?_
    refine va_get (D := D) (v := .ref o) (C := RX3) (T := TX3) (N := 4) hx hb hts iw_X3 hown hK hP 0 rfl rfl 0 (by decide) (hts _ mw_307) (fun _ h9 => h9) rfl dX3_carryOutOrder_190 ?_
    refine lv_iload_n hx hb dX3_carryOutOrder_193 rfl (lv_at hl 1 rfl) ?_
    obtain ⟨x29, h30, h⟩ := bE h
    refine x_MVNp (As := [.int x1]) (rest := []) (wr := (wX w o hs pd sl) ++ (wH cI cT hs hst ta ca hh) ++ (wPd cI pd sg nm pp)) (W1 := (wX w o hs pd sl) ++ (wT cI o a x29.2) ++ (wH cI cT hs hst ta ca hh) ++ (wPd cI pd sg nm pp)) hF (c_X2_takeOath l D cI cZ cT _ o a t x1 x29 h30) ⟨(va_cnB 1 hts (gq mw_256) rfl rfl rfl (nM_of hE 15 rfl) (hts _ mw_15) hd_X2_takeOath.2 ⟨Nat.le_of_ble_eq_true rfl, Nat.le_of_ble_eq_true rfl⟩), hts _ mw_343, hts _ mw_344⟩ hK hP hD hS hA q_T_bl (fun _ _ _ => (trivial : True)) (p4_T (wX w o hs pd sl) (wT cI o a t) (wH cI cT hs hst ta ca hh) (wPd cI pd sg nm pp)) (p4_T (wX w o hs pd sl) (wT cI o a x29.2) (wH cI cT hs hst ta ca hh) (wPd cI pd sg nm pp)).symm rfl rfl rfl hl.1 rfl (Nat.le_of_ble_eq_true rfl) dX3_carryOutOrder_194 ⟨Nat.zero_le _, Nat.zero_le _⟩ (fun H locs hP hD hS => ?_)
    cases h
    exact x_retM C0 rfl hP hD hS dX3_carryOutOrder_197
  have h := xf c28 h
  by_cases c31 : pp.2.2.2.1 = (112 : Int32)
  · have h := xt c31 h
    refine lv_tableIn (tgt := 132) hx hb dX3_carryOutOrder_25 (by rw [c31]; decide) (by rw [c31]; decide) (off := 107) (by rw [c31]; rfl) (by decide) ?_
    refine lv_aload_n hx hb dX3_carryOutOrder_132 rfl (lv_at hl 2 rfl) ?_
    refine va_get (D := D) (v := .ref o) (C := RX3) (T := TX3) (N := 4) hx hb hts iw_X3 hown hK hP 0 rfl rfl 0 (by decide) (hts _ mw_307) (fun _ h9 => h9) rfl dX3_carryOutOrder_133 ?_
    refine lv_iload_n hx hb dX3_carryOutOrder_136 rfl (lv_at hl 1 rfl) ?_
    refine lv_iload_n hx hb dX3_carryOutOrder_137 rfl (lv_at hl 0 rfl) ?_
    obtain ⟨x32, h33, h⟩ := bE h
    refine x_MVNp (As := [.int x1, .int x3]) (rest := []) (wr := (wX w o hs pd sl) ++ (wH cI cT hs hst ta ca hh) ++ (wPd cI pd sg nm pp)) (W1 := (wX w o hs pd sl) ++ (wT cI o a x32.2) ++ (wH cI cT hs hst ta ca hh) ++ (wPd cI pd sg nm pp)) hF (c_X2_addPerson l D cI cZ cT _ o a t x1 x3 x32 h33) ⟨(va_cnB 2 hts (gq mw_172) rfl rfl rfl (nM_of hE 9 rfl) (hts _ mw_15) hd_X2_addPerson.2 ⟨Nat.le_of_ble_eq_true rfl, Nat.le_of_ble_eq_true rfl⟩), hts _ mw_325, hts _ mw_326⟩ hK hP hD hS hA q_T_bl (fun _ _ _ => (trivial : True)) (p4_T (wX w o hs pd sl) (wT cI o a t) (wH cI cT hs hst ta ca hh) (wPd cI pd sg nm pp)) (p4_T (wX w o hs pd sl) (wT cI o a x32.2) (wH cI cT hs hst ta ca hh) (wPd cI pd sg nm pp)).symm rfl rfl rfl hl.1 rfl (Nat.le_of_ble_eq_true rfl) dX3_carryOutOrder_138 ⟨Nat.zero_le _, Nat.zero_le _⟩ (fun H locs hP hD hS => ?_)
    cases h
    exact x_retM C0 rfl hP hD hS dX3_carryOutOrder_141
  have h := xf c31 h
  by_cases c34 : pp.2.2.2.1 = (113 : Int32)
  · have h := xt c34 h
    refine lv_tableIn (tgt := 216) hx hb dX3_carryOutOrder_25 (by rw [c34]; decide) (by rw [c34]; decide) (off := 191) (by rw [c34]; rfl) (by decide) ?_
    refine lv_bipush (v := (-3)) hx hb dX3_carryOutOrder_216 (by decide) ?_
    cases h
    exact x_retM C0 rfl hP hD hS dX3_carryOutOrder_218
  have h := xf c34 h
  by_cases c35 : pp.2.2.2.1 = (114 : Int32)
  · have h := xt c35 h
    refine lv_tableIn (tgt := 216) hx hb dX3_carryOutOrder_25 (by rw [c35]; decide) (by rw [c35]; decide) (off := 191) (by rw [c35]; rfl) (by decide) ?_
    refine lv_bipush (v := (-3)) hx hb dX3_carryOutOrder_216 (by decide) ?_
    cases h
    exact x_retM C0 rfl hP hD hS dX3_carryOutOrder_218
  have h := xf c35 h
  by_cases c36 : pp.2.2.2.1 = (115 : Int32)
  · have h := xt c36 h
    refine lv_tableIn (tgt := 142) hx hb dX3_carryOutOrder_25 (by rw [c36]; decide) (by rw [c36]; decide) (off := 117) (by rw [c36]; rfl) (by decide) ?_
    refine lv_aload_n hx hb dX3_carryOutOrder_142 rfl (lv_at hl 2 rfl) ?_
    refine va_get (D := D) (v := .ref o) (C := RX3) (T := TX3) (N := 4) hx hb hts iw_X3 hown hK hP 0 rfl rfl 0 (by decide) (hts _ mw_307) (fun _ h9 => h9) rfl dX3_carryOutOrder_143 ?_
    refine lv_iload_n hx hb dX3_carryOutOrder_146 rfl (lv_at hl 1 rfl) ?_
    refine lv_iload_n hx hb dX3_carryOutOrder_147 rfl (lv_at hl 0 rfl) ?_
    obtain ⟨x37, h38, h⟩ := bE h
    refine x_MVNp (As := [.int x1, .int x3]) (rest := []) (wr := (wX w o hs pd sl) ++ (wH cI cT hs hst ta ca hh) ++ (wPd cI pd sg nm pp)) (W1 := (wX w o hs pd sl) ++ (wT cI o a x37.2) ++ (wH cI cT hs hst ta ca hh) ++ (wPd cI pd sg nm pp)) hF (c_X2_takeSecond l D cI cZ cT _ o a t x1 x3 x37 h38) ⟨(va_cnB 2 hts (gq mw_175) rfl rfl rfl (nM_of hE 10 rfl) (hts _ mw_15) hd_X2_takeSecond.2 ⟨Nat.le_of_ble_eq_true rfl, Nat.le_of_ble_eq_true rfl⟩), hts _ mw_328, hts _ mw_329⟩ hK hP hD hS hA q_T_bl (fun _ _ _ => (trivial : True)) (p4_T (wX w o hs pd sl) (wT cI o a t) (wH cI cT hs hst ta ca hh) (wPd cI pd sg nm pp)) (p4_T (wX w o hs pd sl) (wT cI o a x37.2) (wH cI cT hs hst ta ca hh) (wPd cI pd sg nm pp)).symm rfl rfl rfl hl.1 rfl (Nat.le_of_ble_eq_true rfl) dX3_carryOutOrder_148 ⟨Nat.zero_le _, Nat.zero_le _⟩ (fun H locs hP hD hS => ?_)
    cases h
    exact x_retM C0 rfl hP hD hS dX3_carryOutOrder_151
  have h := xf c36 h
  by_cases c39 : pp.2.2.2.1 = (116 : Int32)
  · have h := xt c39 h
    refine lv_tableIn (tgt := 198) hx hb dX3_carryOutOrder_25 (by rw [c39]; decide) (by rw [c39]; decide) (off := 173) (by rw [c39]; rfl) (by decide) ?_
    refine lv_aload_n hx hb dX3_carryOutOrder_198 rfl (lv_at hl 2 rfl) ?_
    refine va_get (D := D) (v := .ref o) (C := RX3) (T := TX3) (N := 4) hx hb hts iw_X3 hown hK hP 0 rfl rfl 0 (by decide) (hts _ mw_307) (fun _ h9 => h9) rfl dX3_carryOutOrder_199 ?_
    refine lv_iload_n hx hb dX3_carryOutOrder_202 rfl (lv_at hl 1 rfl) ?_
    obtain ⟨x40, h41, h⟩ := bE h
    refine x_MVNp (As := [.int x1]) (rest := []) (wr := (wX w o hs pd sl) ++ (wH cI cT hs hst ta ca hh) ++ (wPd cI pd sg nm pp)) (W1 := (wX w o hs pd sl) ++ (wT cI o a x40.2) ++ (wH cI cT hs hst ta ca hh) ++ (wPd cI pd sg nm pp)) hF (c_X2_moveOn l D cI cZ cT _ o a t x1 x40 h41) ⟨(va_cnB 1 hts (gq mw_257) rfl rfl rfl (nM_of hE 16 rfl) (hts _ mw_15) hd_X2_moveOn.2 ⟨Nat.le_of_ble_eq_true rfl, Nat.le_of_ble_eq_true rfl⟩), hts _ mw_350, hts _ mw_351⟩ hK hP hD hS hA q_T_bl (fun _ _ _ => (trivial : True)) (p4_T (wX w o hs pd sl) (wT cI o a t) (wH cI cT hs hst ta ca hh) (wPd cI pd sg nm pp)) (p4_T (wX w o hs pd sl) (wT cI o a x40.2) (wH cI cT hs hst ta ca hh) (wPd cI pd sg nm pp)).symm rfl rfl rfl hl.1 rfl (Nat.le_of_ble_eq_true rfl) dX3_carryOutOrder_203 ⟨Nat.zero_le _, Nat.zero_le _⟩ (fun H locs hP hD hS => ?_)
    cases h
    exact x_retM C0 rfl hP hD hS dX3_carryOutOrder_206
  have h := xf c39 h
  by_cases c42 : pp.2.2.2.1 = (117 : Int32)
  · have h := xt c42 h
    refine lv_tableIn (tgt := 216) hx hb dX3_carryOutOrder_25 (by rw [c42]; decide) (by rw [c42]; decide) (off := 191) (by rw [c42]; rfl) (by decide) ?_
    refine lv_bipush (v := (-3)) hx hb dX3_carryOutOrder_216 (by decide) ?_
    cases h
    exact x_retM C0 rfl hP hD hS dX3_carryOutOrder_218
  have h := xf c42 h
  by_cases c43 : pp.2.2.2.1 = (118 : Int32)
  · have h := xt c43 h
    refine lv_tableIn (tgt := 216) hx hb dX3_carryOutOrder_25 (by rw [c43]; decide) (by rw [c43]; decide) (off := 191) (by rw [c43]; rfl) (by decide) ?_
    refine lv_bipush (v := (-3)) hx hb dX3_carryOutOrder_216 (by decide) ?_
    cases h
    exact x_retM C0 rfl hP hD hS dX3_carryOutOrder_218
  have h := xf c43 h
  by_cases c44 : pp.2.2.2.1 = (119 : Int32)
  · have h := xt c44 h
    refine lv_tableIn (tgt := 170) hx hb dX3_carryOutOrder_25 (by rw [c44]; decide) (by rw [c44]; decide) (off := 145) (by rw [c44]; rfl) (by decide) ?_
    refine lv_aload_n hx hb dX3_carryOutOrder_170 rfl (lv_at hl 2 rfl) ?_
    refine va_get (D := D) (v := .ref o) (C := RX3) (T := TX3) (N := 4) hx hb hts iw_X3 hown hK hP 0 rfl rfl 0 (by decide) (hts _ mw_307) (fun _ h9 => h9) rfl dX3_carryOutOrder_171 ?_
    refine lv_iload_n hx hb dX3_carryOutOrder_174 rfl (lv_at hl 1 rfl) ?_
    refine lv_iload_n hx hb dX3_carryOutOrder_175 rfl (lv_at hl 0 rfl) ?_
    obtain ⟨x45, h46, h⟩ := bE h
    refine x_MVNp (As := [.int x1, .int x3]) (rest := []) (wr := (wX w o hs pd sl) ++ (wH cI cT hs hst ta ca hh) ++ (wPd cI pd sg nm pp)) (W1 := (wX w o hs pd sl) ++ (wT cI o a x45.2) ++ (wH cI cT hs hst ta ca hh) ++ (wPd cI pd sg nm pp)) hF (c_X2_settleBy l D cI cZ cT _ o a t x1 x3 x45 h46) ⟨(va_cnB 2 hts (gq mw_238) rfl rfl rfl (nM_of hE 13 rfl) (hts _ mw_15) hd_X2_settleBy.2 ⟨Nat.le_of_ble_eq_true rfl, Nat.le_of_ble_eq_true rfl⟩), hts _ mw_337, hts _ mw_338⟩ hK hP hD hS hA q_T_bl (fun _ _ _ => (trivial : True)) (p4_T (wX w o hs pd sl) (wT cI o a t) (wH cI cT hs hst ta ca hh) (wPd cI pd sg nm pp)) (p4_T (wX w o hs pd sl) (wT cI o a x45.2) (wH cI cT hs hst ta ca hh) (wPd cI pd sg nm pp)).symm rfl rfl rfl hl.1 rfl (Nat.le_of_ble_eq_true rfl) dX3_carryOutOrder_176 ⟨Nat.zero_le _, Nat.zero_le _⟩ (fun H locs hP hD hS => ?_)
    cases h
    exact x_retM C0 rfl hP hD hS dX3_carryOutOrder_179
  have h := xf c44 h
  refine lv_tableOut (tgt := 216) hx hb dX3_carryOutOrder_25 (by have := lv_neT c6 (a := 97) rfl; have := lv_neT c9 (a := 98) rfl; have := lv_neT c10 (a := 99) rfl; have := lv_neT c11 (a := 100) rfl; have := lv_neT c12 (a := 101) rfl; have := lv_neT c13 (a := 102) rfl; have := lv_neT c16 (a := 103) rfl; have := lv_neT c17 (a := 104) rfl; have := lv_neT c18 (a := 105) rfl; have := lv_neT c23 (a := 106) rfl; have := lv_neT c24 (a := 107) rfl; have := lv_neT c25 (a := 108) rfl; have := lv_neT c26 (a := 109) rfl; have := lv_neT c27 (a := 110) rfl; have := lv_neT c28 (a := 111) rfl; have := lv_neT c31 (a := 112) rfl; have := lv_neT c34 (a := 113) rfl; have := lv_neT c35 (a := 114) rfl; have := lv_neT c36 (a := 115) rfl; have := lv_neT c39 (a := 116) rfl; have := lv_neT c42 (a := 117) rfl; have := lv_neT c43 (a := 118) rfl; have := lv_neT c44 (a := 119) rfl; omega) (by decide) ?_
  refine lv_bipush (v := (-3)) hx hb dX3_carryOutOrder_216 (by decide) ?_
  cases h
  exact x_retM C0 rfl hP hD hS dX3_carryOutOrder_218

/-! QuarrelWays.carryOut ()I -/
def f_X3_carryOut_L38 : Nat → TT → HH → PP → Int32 → Int32 → Option (Int32 × TT × HH × PP)
  | 0, _, _, _, _, _ => none
  | n + 1, z1, z2, z3, y1, y2 => (if (80 : Int32) ≤ y2 then ((f_X0_keepUnlessError z2 y1).bind fun x7 => some (x7.1, z1, x7.2, (P1 z3 (0 : Int32)))) else ((f_X1_readOrder z3).bind fun x9 => (if x9.1 = 0 then ((f_X0_keepUnlessError z2 y1).bind fun x12 => some (x12.1, z1, x12.2, (P1 x9.2 (0 : Int32)))) else ((f_X3_carryOutOrder z1 z2 x9.2).bind fun x14 => ((f_X3_isError x14.1).bind fun x16 => (if x16 = 0 then ((f_X1_stepOverSemicolon x9.2).bind fun x19 => f_X3_carryOut_L38 n x14.2 z2 x19 (y1 + (1 : Int32)) (y2 + (1 : Int32))) else ((f_X0_keepUnlessError z2 y1).bind fun x21 => some (x21.1, x14.2, x21.2, (P1 x9.2 (0 : Int32))))))))))
def f_X3_carryOut (t : TT) (hh : HH) (pp : PP) : Option (Int32 × TT × HH × PP) := ((f_X1_firstFault pp).bind fun x1 => (if x1.1 = (-6 : Int32) then ((f_X0_note hh t).bind fun x4 => f_X3_carryOut_L38 2000 t x4 (P2 x1.2 (0 : Int32)) (0 : Int32) (0 : Int32)) else some ((-3 : Int32), t, hh, x1.2)))
abbrev rm_X3_carryOut : Room := { frames := 6, cells := 0, slots := 0, locals := 140 }
theorem hd_X3_carryOut : yX3_carryOut.cls = RX3 ∧ yX3_carryOut.cls ≠ "java/lang/invoke/MethodHandle" ∧ yX3_carryOut.cls ≠ "java/lang/invoke/VarHandle" ∧ (parseMethodDescriptor yX3_carryOut.desc).map (fun d => d.parameters.length) = some 0 := by decide +kernel
set_option maxHeartbeats 4000000 in
set_option maxRecDepth 100000 in
theorem k_X3_carryOut_L38 {r : Int32 × TT × HH × PP} (w sl : Nat) (o a : Nat) (hs hst : Nat) (ta ca : Nat → Nat) (pd sg nm : Nat) (t : TT) (hh : HH) (pp : PP) (hA : ∀ q, s.heap.size ≤ q → (va_A ((wX w o hs pd sl) ++ (wT cI o a t) ++ (wH cI cT hs hst ta ca hh) ++ (wPd cI pd sg nm pp)) s.heap.size) q) {G : q_G} (hE : q_E G (va_A ((wX w o hs pd sl) ++ (wT cI o a t) ++ (wH cI cT hs hst ta ca hh) ++ (wPd cI pd sg nm pp)) s.heap.size) s) (C0 : q_At p s m args meth c cX3_carryOut 3 (some .int) RX3) (hK : va_K D vwCl (q_tys cI cZ cT) s) : ∀ (n : Nat) (z1 : TT) (z2 : HH) (z3 : PP) (y1 : Int32) (y2 : Int32) (H : Heap) (locs : List Loc) (ls : Array Slot), va_P D vwCl ((wX w o hs pd sl) ++ (wT cI o a z1) ++ (wH cI cT hs hst ta ca z2) ++ (wPd cI pd sg nm z3)) H → va_D (va_A ((wX w o hs pd sl) ++ (wT cI o a t) ++ (wH cI cT hs hst ta ca hh) ++ (wPd cI pd sg nm pp)) s.heap.size) ((wX w o hs pd sl) ++ (wT cI o a z1) ++ (wH cI cT hs hst ta ca z2) ++ (wPd cI pd sg nm z3)) → va_S (va_A ((wX w o hs pd sl) ++ (wT cI o a t) ++ (wH cI cT hs hst ta ca hh) ++ (wPd cI pd sg nm pp)) s.heap.size) s.heap H locs → lv_has ls 3 [(0, .ref w), (1, .int y1), (2, .int y2)] → f_X3_carryOut_L38 n z1 z2 z3 y1 y2 = some r → W p l e rm_X3_carryOut s m args below meth c H locs 0 0 (q_QM D below args s ((wX w o hs pd sl) ++ (wT cI o a t) ++ (wH cI cT hs hst ta ca hh) ++ (wPd cI pd sg nm pp)) ((wX w o hs pd sl) ++ (wT cI o a r.2.1) ++ (wH cI cT hs hst ta ca r.2.2.1) ++ (wPd cI pd sg nm r.2.2.2)) r.1) (F0 m 38 ls []) := by
  obtain ⟨hx, hb, hr, hml, hown, hts, hlocks⟩ := id C0
  have hF : CallFix p m c cX3_carryOut 3 s args BW RX3 := ⟨hx, hb, hml, hown, hts⟩
  intro n
  induction n with
  | zero =>
    intro z1 z2 z3 y1 y2 H locs ls hP hD hS hl h
    rw [f_X3_carryOut_L38] at h
    cases h
  | succ n ih =>
    intro z1 z2 z3 y1 y2 H locs ls hP hD hS hl h
    rw [f_X3_carryOut_L38] at h
    refine lv_iload_n hx hb dX3_carryOut_38 rfl (lv_at hl 2 rfl) ?_
    refine lv_bipush (v := 80) hx hb dX3_carryOut_39 (by decide) ?_
    refine lv_icmp_ge (tgt := 83) hx hb dX3_carryOut_41 (by decide) (fun c6 => ?_) (fun c6 => ?_)
    · have h := xt c6 h
      refine lv_aload_n hx hb dX3_carryOut_83 rfl (lv_at hl 0 rfl) ?_
      refine va_get (D := D) (v := .ref pd) (C := RX3) (T := TX3) (N := 4) hx hb hts iw_X3 hown hK hP 0 rfl rfl 2 (by decide) (hts _ mw_313) (fun _ h9 => h9) rfl dX3_carryOut_84 ?_
      refine lv_iconst (v := 0) hx hb dX3_carryOut_87 (by decide) ?_
      refine va_putN (D := D) (v := .int (0 : Int32)) (ty := .int) (C := RX1) (T := TX1) (N := 6) hx hb hts iw_X1 tyX1 tyX1_ok nmX1 hown hK hP hD hS 19 rfl rfl 1 (by decide) (nF_of hE 0 rfl) (fun _ h9 => h9) rfl (by decide +kernel) rfl rfl (Nat.le_of_ble_eq_true rfl) dX3_carryOut_88 (fun H locs hP hD hS => ?_)
      have hP : va_P D vwCl ((wX w o hs pd sl) ++ (wT cI o a z1) ++ (wH cI cT hs hst ta ca z2) ++ (wPd cI pd sg nm (P1 z3 (0 : Int32)))) H := hP
      have hD : va_D (va_A ((wX w o hs pd sl) ++ (wT cI o a t) ++ (wH cI cT hs hst ta ca hh) ++ (wPd cI pd sg nm pp)) s.heap.size) ((wX w o hs pd sl) ++ (wT cI o a z1) ++ (wH cI cT hs hst ta ca z2) ++ (wPd cI pd sg nm (P1 z3 (0 : Int32)))) := hD
      refine lv_aload_n hx hb dX3_carryOut_91 rfl (lv_at hl 0 rfl) ?_
      refine va_get (D := D) (v := .ref hs) (C := RX3) (T := TX3) (N := 4) hx hb hts iw_X3 hown hK hP 0 rfl rfl 1 (by decide) (hts _ mw_310) (fun _ h9 => h9) rfl dX3_carryOut_92 ?_
      refine lv_iload_n hx hb dX3_carryOut_95 rfl (lv_at hl 1 rfl) ?_
      obtain ⟨x7, h8, h⟩ := bE h
      refine x_MVNp (As := [.int y1]) (rest := []) (wr := (wX w o hs pd sl) ++ (wT cI o a z1) ++ (wPd cI pd sg nm (P1 z3 (0 : Int32)))) (W1 := (wX w o hs pd sl) ++ (wT cI o a z1) ++ (wH cI cT hs hst ta ca x7.2) ++ (wPd cI pd sg nm (P1 z3 (0 : Int32)))) hF (c_X0_keepUnlessError l D cI cZ cT G _ hs hst ta ca z2 y1 x7 h8) ⟨(va_cnB 1 hts (gq mw_49) rfl rfl rfl (nM_of hE 8 rfl) (hts _ mw_33) hd_X0_keepUnlessError.2 ⟨Nat.le_of_ble_eq_true rfl, Nat.le_of_ble_eq_true rfl⟩), hts _ mw_322, hts _ mw_323⟩ hK hP hD hS hA q_E_bl (q_E_go hE hS (q_freep (p4_H (wX w o hs pd sl) (wT cI o a z1) (wH cI cT hs hst ta ca z2) (wPd cI pd sg nm (P1 z3 (0 : Int32)))) hD hS hA)) (p4_H (wX w o hs pd sl) (wT cI o a z1) (wH cI cT hs hst ta ca z2) (wPd cI pd sg nm (P1 z3 (0 : Int32)))) (p4_H (wX w o hs pd sl) (wT cI o a z1) (wH cI cT hs hst ta ca x7.2) (wPd cI pd sg nm (P1 z3 (0 : Int32)))).symm rfl rfl rfl hl.1 rfl (Nat.le_of_ble_eq_true rfl) dX3_carryOut_96 ⟨Nat.zero_le _, Nat.zero_le _⟩ (fun H locs hP hD hS => ?_)
      cases h
      exact x_retM C0 rfl hP hD hS dX3_carryOut_99
    · have h := xf c6 h
      refine lv_aload_n hx hb dX3_carryOut_44 rfl (lv_at hl 0 rfl) ?_
      refine va_get (D := D) (v := .ref pd) (C := RX3) (T := TX3) (N := 4) hx hb hts iw_X3 hown hK hP 0 rfl rfl 2 (by decide) (hts _ mw_313) (fun _ h9 => h9) rfl dX3_carryOut_45 ?_
      obtain ⟨x9, h10, h⟩ := bE h
      refine x_MVNp (As := []) (rest := []) (wr := (wX w o hs pd sl) ++ (wT cI o a z1) ++ (wH cI cT hs hst ta ca z2)) (W1 := (wX w o hs pd sl) ++ (wT cI o a z1) ++ (wH cI cT hs hst ta ca z2) ++ (wPd cI pd sg nm x9.2)) hF (c_X1_readOrder l D cI cZ cT G _ pd sg nm z3  x9 h10) ⟨(va_cnB 0 hts (gq mw_147) rfl rfl rfl (nM_of hE 37 rfl) (hts _ mw_70) hd_X1_readOrder.2 ⟨Nat.le_of_ble_eq_true rfl, Nat.le_of_ble_eq_true rfl⟩), hts _ mw_149, hts _ mw_150⟩ hK hP hD hS hA q_E_bl (q_E_go hE hS (q_freep (p4_P (wX w o hs pd sl) (wT cI o a z1) (wH cI cT hs hst ta ca z2) (wPd cI pd sg nm z3)) hD hS hA)) (p4_P (wX w o hs pd sl) (wT cI o a z1) (wH cI cT hs hst ta ca z2) (wPd cI pd sg nm z3)) (p4_P (wX w o hs pd sl) (wT cI o a z1) (wH cI cT hs hst ta ca z2) (wPd cI pd sg nm x9.2)).symm rfl rfl rfl hl.1 rfl (Nat.le_of_ble_eq_true rfl) dX3_carryOut_48 ⟨Nat.zero_le _, Nat.zero_le _⟩ (fun H locs hP hD hS => ?_)
      refine lv_if_eq (tgt := 83) hx hb dX3_carryOut_51 (by decide) (fun c11 => ?_) (fun c11 => ?_)
      · have h := xt c11 h
        refine lv_aload_n hx hb dX3_carryOut_83 rfl (lv_at hl 0 rfl) ?_
        refine va_get (D := D) (v := .ref pd) (C := RX3) (T := TX3) (N := 4) hx hb hts iw_X3 hown hK hP 0 rfl rfl 2 (by decide) (hts _ mw_313) (fun _ h9 => h9) rfl dX3_carryOut_84 ?_
        refine lv_iconst (v := 0) hx hb dX3_carryOut_87 (by decide) ?_
        refine va_putN (D := D) (v := .int (0 : Int32)) (ty := .int) (C := RX1) (T := TX1) (N := 6) hx hb hts iw_X1 tyX1 tyX1_ok nmX1 hown hK hP hD hS 19 rfl rfl 1 (by decide) (nF_of hE 0 rfl) (fun _ h9 => h9) rfl (by decide +kernel) rfl rfl (Nat.le_of_ble_eq_true rfl) dX3_carryOut_88 (fun H locs hP hD hS => ?_)
        have hP : va_P D vwCl ((wX w o hs pd sl) ++ (wT cI o a z1) ++ (wH cI cT hs hst ta ca z2) ++ (wPd cI pd sg nm (P1 x9.2 (0 : Int32)))) H := hP
        have hD : va_D (va_A ((wX w o hs pd sl) ++ (wT cI o a t) ++ (wH cI cT hs hst ta ca hh) ++ (wPd cI pd sg nm pp)) s.heap.size) ((wX w o hs pd sl) ++ (wT cI o a z1) ++ (wH cI cT hs hst ta ca z2) ++ (wPd cI pd sg nm (P1 x9.2 (0 : Int32)))) := hD
        refine lv_aload_n hx hb dX3_carryOut_91 rfl (lv_at hl 0 rfl) ?_
        refine va_get (D := D) (v := .ref hs) (C := RX3) (T := TX3) (N := 4) hx hb hts iw_X3 hown hK hP 0 rfl rfl 1 (by decide) (hts _ mw_310) (fun _ h9 => h9) rfl dX3_carryOut_92 ?_
        refine lv_iload_n hx hb dX3_carryOut_95 rfl (lv_at hl 1 rfl) ?_
        obtain ⟨x12, h13, h⟩ := bE h
        refine x_MVNp (As := [.int y1]) (rest := []) (wr := (wX w o hs pd sl) ++ (wT cI o a z1) ++ (wPd cI pd sg nm (P1 x9.2 (0 : Int32)))) (W1 := (wX w o hs pd sl) ++ (wT cI o a z1) ++ (wH cI cT hs hst ta ca x12.2) ++ (wPd cI pd sg nm (P1 x9.2 (0 : Int32)))) hF (c_X0_keepUnlessError l D cI cZ cT G _ hs hst ta ca z2 y1 x12 h13) ⟨(va_cnB 1 hts (gq mw_49) rfl rfl rfl (nM_of hE 8 rfl) (hts _ mw_33) hd_X0_keepUnlessError.2 ⟨Nat.le_of_ble_eq_true rfl, Nat.le_of_ble_eq_true rfl⟩), hts _ mw_322, hts _ mw_323⟩ hK hP hD hS hA q_E_bl (q_E_go hE hS (q_freep (p4_H (wX w o hs pd sl) (wT cI o a z1) (wH cI cT hs hst ta ca z2) (wPd cI pd sg nm (P1 x9.2 (0 : Int32)))) hD hS hA)) (p4_H (wX w o hs pd sl) (wT cI o a z1) (wH cI cT hs hst ta ca z2) (wPd cI pd sg nm (P1 x9.2 (0 : Int32)))) (p4_H (wX w o hs pd sl) (wT cI o a z1) (wH cI cT hs hst ta ca x12.2) (wPd cI pd sg nm (P1 x9.2 (0 : Int32)))).symm rfl rfl rfl hl.1 rfl (Nat.le_of_ble_eq_true rfl) dX3_carryOut_96 ⟨Nat.zero_le _, Nat.zero_le _⟩ (fun H locs hP hD hS => ?_)
        cases h
        exact x_retM C0 rfl hP hD hS dX3_carryOut_99
      · have h := xf c11 h
        refine lv_aload_n hx hb dX3_carryOut_54 rfl (lv_at hl 0 rfl) ?_
        obtain ⟨x14, h15, h⟩ := bE h
        refine x_MVp (As := []) (rest := []) (wr := []) (W1 := (wX w o hs pd sl) ++ (wT cI o a x14.2) ++ (wH cI cT hs hst ta ca z2) ++ (wPd cI pd sg nm x9.2)) hF (c_X3_carryOutOrder l D cI cZ cT G _ w sl o a z1 hs hst ta ca z2 pd sg nm x9.2  x14 h15) (cwV 0 hts (gqV mw_397 mw_398 mw_399 mw_51 mw_396) rfl rfl rfl hd_X3_carryOutOrder ⟨Nat.le_of_ble_eq_true rfl, Nat.le_of_ble_eq_true rfl⟩) hK hP hD hS hA q_E_bl (q_E_go hE hS (q_freep (p4_A (wX w o hs pd sl) (wT cI o a z1) (wH cI cT hs hst ta ca z2) (wPd cI pd sg nm x9.2)) hD hS hA)) (p4_A (wX w o hs pd sl) (wT cI o a z1) (wH cI cT hs hst ta ca z2) (wPd cI pd sg nm x9.2)) (p4_A (wX w o hs pd sl) (wT cI o a x14.2) (wH cI cT hs hst ta ca z2) (wPd cI pd sg nm x9.2)).symm rfl rfl rfl hl.1 rfl (Nat.le_of_ble_eq_true rfl) dX3_carryOut_55 ⟨Nat.zero_le _, Nat.zero_le _⟩ (fun H locs hP hD hS => ?_)
        obtain ⟨x16, h17, h⟩ := bE h
        refine x_RS (As := [.int x14.1]) (rest := []) hF (c_X3_isError l D cI cZ cT  x14.1 x16 h17) (va_cwS 1 hts (gqS mw_352 mw_50 mw_51 mw_48) rfl rfl rfl hd_X3_isError.2 ⟨Nat.le_of_ble_eq_true rfl, Nat.le_of_ble_eq_true rfl⟩) hK hP q_T_bl (fun _ _ _ => (trivial : True)) [] rfl rfl hl.1 rfl (Nat.le_of_ble_eq_true rfl) dX3_carryOut_58 ⟨Nat.zero_le _, Nat.zero_le _⟩ ?_
        refine lv_if_eq (tgt := 67) hx hb dX3_carryOut_61 (by decide) (fun c18 => ?_) (fun c18 => ?_)
        · have h := xt c18 h
          refine lv_iinc (v := (y1 + (1 : Int32))) (lv' := [(1, .int (y1 + (1 : Int32))), (0, .ref w), (2, .int y2)]) hx hb dX3_carryOut_67 hl (k := 1) rfl rfl (by decide) rfl (fun ls hl => ?_)
          refine lv_aload_n hx hb dX3_carryOut_70 rfl (lv_at hl 1 rfl) ?_
          refine va_get (D := D) (v := .ref pd) (C := RX3) (T := TX3) (N := 4) hx hb hts iw_X3 hown hK hP 0 rfl rfl 2 (by decide) (hts _ mw_313) (fun _ h9 => h9) rfl dX3_carryOut_71 ?_
          obtain ⟨x19, h20, h⟩ := bE h
          refine x_VVNp (As := []) (rest := []) (wr := (wX w o hs pd sl) ++ (wT cI o a x14.2) ++ (wH cI cT hs hst ta ca z2)) (W1 := (wX w o hs pd sl) ++ (wT cI o a x14.2) ++ (wH cI cT hs hst ta ca z2) ++ (wPd cI pd sg nm x19)) hF (c_X1_stepOverSemicolon l D cI cZ cT _ pd sg nm x9.2  x19 h20) ⟨(va_cnB 0 hts (gq mw_152) rfl rfl rfl (nM_of hE 38 rfl) (hts _ mw_70) hd_X1_stepOverSemicolon.2 ⟨Nat.le_of_ble_eq_true rfl, Nat.le_of_ble_eq_true rfl⟩), hts _ mw_400, hts _ mw_401⟩ hK hP hD hS hA q_T_bl (fun _ _ _ => (trivial : True)) (p4_P (wX w o hs pd sl) (wT cI o a x14.2) (wH cI cT hs hst ta ca z2) (wPd cI pd sg nm x9.2)) (p4_P (wX w o hs pd sl) (wT cI o a x14.2) (wH cI cT hs hst ta ca z2) (wPd cI pd sg nm x19)).symm rfl rfl rfl hl.1 rfl (Nat.le_of_ble_eq_true rfl) dX3_carryOut_74 ⟨Nat.zero_le _, Nat.zero_le _⟩ (fun H locs hP hD hS => ?_)
          refine lv_iinc (v := (y2 + (1 : Int32))) (lv' := [(2, .int (y2 + (1 : Int32))), (1, .int (y1 + (1 : Int32))), (0, .ref w)]) hx hb dX3_carryOut_77 hl (k := 2) rfl rfl (by decide) rfl (fun ls hl => ?_)
          refine lv_goto (tgt := 38) hx hb dX3_carryOut_80 (by decide) ?_
          exact ih x14.2 z2 x19 (y1 + (1 : Int32)) (y2 + (1 : Int32)) _ _ _ hP hD hS (lv_sub hl [2, 1, 0] rfl) h
        · have h := xf c18 h
          refine lv_goto (tgt := 83) hx hb dX3_carryOut_64 (by decide) ?_
          refine lv_aload_n hx hb dX3_carryOut_83 rfl (lv_at hl 0 rfl) ?_
          refine va_get (D := D) (v := .ref pd) (C := RX3) (T := TX3) (N := 4) hx hb hts iw_X3 hown hK hP 0 rfl rfl 2 (by decide) (hts _ mw_313) (fun _ h9 => h9) rfl dX3_carryOut_84 ?_
          refine lv_iconst (v := 0) hx hb dX3_carryOut_87 (by decide) ?_
          refine va_putN (D := D) (v := .int (0 : Int32)) (ty := .int) (C := RX1) (T := TX1) (N := 6) hx hb hts iw_X1 tyX1 tyX1_ok nmX1 hown hK hP hD hS 19 rfl rfl 1 (by decide) (nF_of hE 0 rfl) (fun _ h9 => h9) rfl (by decide +kernel) rfl rfl (Nat.le_of_ble_eq_true rfl) dX3_carryOut_88 (fun H locs hP hD hS => ?_)
          have hP : va_P D vwCl ((wX w o hs pd sl) ++ (wT cI o a x14.2) ++ (wH cI cT hs hst ta ca z2) ++ (wPd cI pd sg nm (P1 x9.2 (0 : Int32)))) H := hP
          have hD : va_D (va_A ((wX w o hs pd sl) ++ (wT cI o a t) ++ (wH cI cT hs hst ta ca hh) ++ (wPd cI pd sg nm pp)) s.heap.size) ((wX w o hs pd sl) ++ (wT cI o a x14.2) ++ (wH cI cT hs hst ta ca z2) ++ (wPd cI pd sg nm (P1 x9.2 (0 : Int32)))) := hD
          refine lv_aload_n hx hb dX3_carryOut_91 rfl (lv_at hl 0 rfl) ?_
          refine va_get (D := D) (v := .ref hs) (C := RX3) (T := TX3) (N := 4) hx hb hts iw_X3 hown hK hP 0 rfl rfl 1 (by decide) (hts _ mw_310) (fun _ h9 => h9) rfl dX3_carryOut_92 ?_
          refine lv_iload_n hx hb dX3_carryOut_95 rfl (lv_at hl 1 rfl) ?_
          obtain ⟨x21, h22, h⟩ := bE h
          refine x_MVNp (As := [.int y1]) (rest := []) (wr := (wX w o hs pd sl) ++ (wT cI o a x14.2) ++ (wPd cI pd sg nm (P1 x9.2 (0 : Int32)))) (W1 := (wX w o hs pd sl) ++ (wT cI o a x14.2) ++ (wH cI cT hs hst ta ca x21.2) ++ (wPd cI pd sg nm (P1 x9.2 (0 : Int32)))) hF (c_X0_keepUnlessError l D cI cZ cT G _ hs hst ta ca z2 y1 x21 h22) ⟨(va_cnB 1 hts (gq mw_49) rfl rfl rfl (nM_of hE 8 rfl) (hts _ mw_33) hd_X0_keepUnlessError.2 ⟨Nat.le_of_ble_eq_true rfl, Nat.le_of_ble_eq_true rfl⟩), hts _ mw_322, hts _ mw_323⟩ hK hP hD hS hA q_E_bl (q_E_go hE hS (q_freep (p4_H (wX w o hs pd sl) (wT cI o a x14.2) (wH cI cT hs hst ta ca z2) (wPd cI pd sg nm (P1 x9.2 (0 : Int32)))) hD hS hA)) (p4_H (wX w o hs pd sl) (wT cI o a x14.2) (wH cI cT hs hst ta ca z2) (wPd cI pd sg nm (P1 x9.2 (0 : Int32)))) (p4_H (wX w o hs pd sl) (wT cI o a x14.2) (wH cI cT hs hst ta ca x21.2) (wPd cI pd sg nm (P1 x9.2 (0 : Int32)))).symm rfl rfl rfl hl.1 rfl (Nat.le_of_ble_eq_true rfl) dX3_carryOut_96 ⟨Nat.zero_le _, Nat.zero_le _⟩ (fun H locs hP hD hS => ?_)
          cases h
          exact x_retM C0 rfl hP hD hS dX3_carryOut_99
set_option maxHeartbeats 4000000 in
set_option maxRecDepth 100000 in
theorem c_X3_carryOut (l : Launch) (D : va_G) (cI cZ cT : ClassId) (G : q_G) (sz : Nat) (w sl : Nat) (o a : Nat) (t : TT) (hs hst : Nat) (ta ca : Nat → Nat) (hh : HH) (pd sg nm : Nat) (pp : PP) (r : Int32 × TT × HH × PP) (h : f_X3_carryOut t hh pp = some r) : Met l yX3_carryOut (wq yX3_carryOut cX3_carryOut 3 (some .int)) rm_X3_carryOut (q_M D (q_tys cI cZ cT) sz ((wX w o hs pd sl) ++ (wT cI o a t) ++ (wH cI cT hs hst ta ca hh) ++ (wPd cI pd sg nm pp)) (q_E G (va_A ((wX w o hs pd sl) ++ (wT cI o a t) ++ (wH cI cT hs hst ta ca hh) ++ (wPd cI pd sg nm pp)) sz)) [.ref w]) (va_Qi (fun r' _ => r' = r.1) (q_B D ((wX w o hs pd sl) ++ (wT cI o a t) ++ (wH cI cT hs hst ta ca hh) ++ (wPd cI pd sg nm pp)) sz ((wX w o hs pd sl) ++ (wT cI o a r.2.1) ++ (wH cI cT hs hst ta ca r.2.2.1) ++ (wPd cI pd sg nm r.2.2.2))) (va_A ((wX w o hs pd sl) ++ (wT cI o a t) ++ (wH cI cT hs hst ta ca hh) ++ (wPd cI pd sg nm pp)) sz)) 0 0 (va_A ((wX w o hs pd sl) ++ (wT cI o a t) ++ (wH cI cT hs hst ta ca hh) ++ (wPd cI pd sg nm pp)) sz) := by
  refine q_MI (cc := cX3_carryOut) (maxL := 3) (ret := (some .int)) (E := fun sz => (q_E G (va_A ((wX w o hs pd sl) ++ (wT cI o a t) ++ (wH cI cT hs hst ta ca hh) ++ (wPd cI pd sg nm pp)) sz))) (Qc := fun sz => (va_Qi (fun r' _ => r' = r.1) (q_B D ((wX w o hs pd sl) ++ (wT cI o a t) ++ (wH cI cT hs hst ta ca hh) ++ (wPd cI pd sg nm pp)) sz ((wX w o hs pd sl) ++ (wT cI o a r.2.1) ++ (wH cI cT hs hst ta ca r.2.2.1) ++ (wPd cI pd sg nm r.2.2.2))) (va_A ((wX w o hs pd sl) ++ (wT cI o a t) ++ (wH cI cT hs hst ta ca hh) ++ (wPd cI pd sg nm pp)) sz))) (free := fun sz => va_A ((wX w o hs pd sl) ++ (wT cI o a t) ++ (wH cI cT hs hst ta ca hh) ++ (wPd cI pd sg nm pp)) sz) (plainFor_of_name (by decide)) (Nat.le_of_ble_eq_true rfl) (fun p e s m below meth c C0 hname hP hK hD hE ls hl => ?_)
  have hA : ∀ q, s.heap.size ≤ q → (va_A ((wX w o hs pd sl) ++ (wT cI o a t) ++ (wH cI cT hs hst ta ca hh) ++ (wPd cI pd sg nm pp)) s.heap.size) q := fun _ => Or.inr
  have hS : va_S (va_A ((wX w o hs pd sl) ++ (wT cI o a t) ++ (wH cI cT hs hst ta ca hh) ++ (wPd cI pd sg nm pp)) s.heap.size) s.heap s.heap [] := va_S.rf
  have hE : q_E G (va_A ((wX w o hs pd sl) ++ (wT cI o a t) ++ (wH cI cT hs hst ta ca hh) ++ (wPd cI pd sg nm pp)) s.heap.size) s := hE
  have hl : lv_has ls 3 [(0, .ref w)] := hl
  obtain ⟨hx, hb, hr, hml, hown, hts, hlocks⟩ := id C0
  have hF : CallFix p m c cX3_carryOut 3 s _ BW RX3 := ⟨hx, hb, hml, hown, hts⟩
  rw [f_X3_carryOut] at h
  refine lv_aload_n hx hb dX3_carryOut_0 rfl (lv_at hl 0 rfl) ?_
  refine va_get (D := D) (v := .ref pd) (C := RX3) (T := TX3) (N := 4) hx hb hts iw_X3 hown hK hP 0 rfl rfl 2 (by decide) (hts _ mw_313) (fun _ h9 => h9) rfl dX3_carryOut_1 ?_
  obtain ⟨x1, h2, h⟩ := bE h
  refine x_MVNp (As := []) (rest := []) (wr := (wX w o hs pd sl) ++ (wT cI o a t) ++ (wH cI cT hs hst ta ca hh)) (W1 := (wX w o hs pd sl) ++ (wT cI o a t) ++ (wH cI cT hs hst ta ca hh) ++ (wPd cI pd sg nm x1.2)) hF (c_X1_firstFault l D cI cZ cT G _ pd sg nm pp  x1 h2) ⟨(va_cnB 0 hts (gq mw_151) rfl rfl rfl (nM_of hE 36 rfl) (hts _ mw_70) hd_X1_firstFault.2 ⟨Nat.le_of_ble_eq_true rfl, Nat.le_of_ble_eq_true rfl⟩), hts _ mw_391, hts _ mw_392⟩ hK hP hD hS hA q_E_bl (q_E_go hE hS (q_freep (p4_P (wX w o hs pd sl) (wT cI o a t) (wH cI cT hs hst ta ca hh) (wPd cI pd sg nm pp)) hD hS hA)) (p4_P (wX w o hs pd sl) (wT cI o a t) (wH cI cT hs hst ta ca hh) (wPd cI pd sg nm pp)) (p4_P (wX w o hs pd sl) (wT cI o a t) (wH cI cT hs hst ta ca hh) (wPd cI pd sg nm x1.2)).symm rfl rfl rfl hl.1 rfl (Nat.le_of_ble_eq_true rfl) dX3_carryOut_4 ⟨Nat.zero_le _, Nat.zero_le _⟩ (fun H locs hP hD hS => ?_)
  refine lv_bipush (v := (-6)) hx hb dX3_carryOut_7 (by decide) ?_
  refine lv_icmp_eq (tgt := 15) hx hb dX3_carryOut_9 (by decide) (fun c3 => ?_) (fun c3 => ?_)
  · have h := xt c3 h
    refine lv_aload_n hx hb dX3_carryOut_15 rfl (lv_at hl 0 rfl) ?_
    refine va_get (D := D) (v := .ref hs) (C := RX3) (T := TX3) (N := 4) hx hb hts iw_X3 hown hK hP 0 rfl rfl 1 (by decide) (hts _ mw_310) (fun _ h9 => h9) rfl dX3_carryOut_16 ?_
    refine lv_aload_n hx hb dX3_carryOut_19 rfl (lv_at hl 0 rfl) ?_
    refine va_get (D := D) (v := .ref o) (C := RX3) (T := TX3) (N := 4) hx hb hts iw_X3 hown hK hP 0 rfl rfl 0 (by decide) (hts _ mw_307) (fun _ h9 => h9) rfl dX3_carryOut_20 ?_
    obtain ⟨x4, h5, h⟩ := bE h
    refine x_VVNp (As := [.ref o]) (rest := []) (wr := (wX w o hs pd sl) ++ (wPd cI pd sg nm x1.2)) (W1 := (wX w o hs pd sl) ++ (wT cI o a t) ++ (wH cI cT hs hst ta ca x4) ++ (wPd cI pd sg nm x1.2)) hF (c_X0_note l D cI cZ cT G _ hs hst ta ca hh o a t  x4 h5) ⟨(va_cnB 1 hts (gq mw_47) rfl rfl rfl (nM_of hE 6 rfl) (hts _ mw_33) hd_X0_note.2 ⟨Nat.le_of_ble_eq_true rfl, Nat.le_of_ble_eq_true rfl⟩), hts _ mw_318, hts _ mw_319⟩ hK hP hD hS hA q_E_bl (q_E_go hE hS (q_freep (p4_HT (wX w o hs pd sl) (wT cI o a t) (wH cI cT hs hst ta ca hh) (wPd cI pd sg nm x1.2)) hD hS hA)) (p4_HT (wX w o hs pd sl) (wT cI o a t) (wH cI cT hs hst ta ca hh) (wPd cI pd sg nm x1.2)) (p4_HT (wX w o hs pd sl) (wT cI o a t) (wH cI cT hs hst ta ca x4) (wPd cI pd sg nm x1.2)).symm rfl rfl rfl hl.1 rfl (Nat.le_of_ble_eq_true rfl) dX3_carryOut_23 ⟨Nat.zero_le _, Nat.zero_le _⟩ (fun H locs hP hD hS => ?_)
    refine lv_iconst (v := 0) hx hb dX3_carryOut_26 (by decide) ?_
    refine lv_istore_n (lv' := [(1, .int (0 : Int32)), (0, .ref w)]) hx hb dX3_carryOut_27 rfl hl (by decide) rfl (fun ls hl => ?_)
    refine lv_aload_n hx hb dX3_carryOut_28 rfl (lv_at hl 1 rfl) ?_
    refine va_get (D := D) (v := .ref pd) (C := RX3) (T := TX3) (N := 4) hx hb hts iw_X3 hown hK hP 0 rfl rfl 2 (by decide) (hts _ mw_313) (fun _ h9 => h9) rfl dX3_carryOut_29 ?_
    refine lv_iconst (v := 0) hx hb dX3_carryOut_32 (by decide) ?_
    refine va_putN (D := D) (v := .int (0 : Int32)) (ty := .int) (C := RX1) (T := TX1) (N := 6) hx hb hts iw_X1 tyX1 tyX1_ok nmX1 hown hK hP hD hS 19 rfl rfl 2 (by decide) (nF_of hE 2 rfl) (fun _ h9 => h9) rfl (by decide +kernel) rfl rfl (Nat.le_of_ble_eq_true rfl) dX3_carryOut_33 (fun H locs hP hD hS => ?_)
    have hP : va_P D vwCl ((wX w o hs pd sl) ++ (wT cI o a t) ++ (wH cI cT hs hst ta ca x4) ++ (wPd cI pd sg nm (P2 x1.2 (0 : Int32)))) H := hP
    have hD : va_D (va_A ((wX w o hs pd sl) ++ (wT cI o a t) ++ (wH cI cT hs hst ta ca hh) ++ (wPd cI pd sg nm pp)) s.heap.size) ((wX w o hs pd sl) ++ (wT cI o a t) ++ (wH cI cT hs hst ta ca x4) ++ (wPd cI pd sg nm (P2 x1.2 (0 : Int32)))) := hD
    refine lv_iconst (v := 0) hx hb dX3_carryOut_36 (by decide) ?_
    refine lv_istore_n (lv' := [(2, .int (0 : Int32)), (1, .int (0 : Int32)), (0, .ref w)]) hx hb dX3_carryOut_37 rfl hl (by decide) rfl (fun ls hl => ?_)
    exact k_X3_carryOut_L38 w sl o a hs hst ta ca pd sg nm t hh pp hA hE C0 hK 2000 t x4 (P2 x1.2 (0 : Int32)) (0 : Int32) (0 : Int32) _ _ _ hP hD hS (lv_sub hl [2, 1, 0] rfl) h
  · have h := xf c3 h
    refine lv_bipush (v := (-3)) hx hb dX3_carryOut_12 (by decide) ?_
    cases h
    exact x_retM C0 rfl hP hD hS dX3_carryOut_14

end G_Y

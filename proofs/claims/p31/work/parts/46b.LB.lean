section G_LB
variable {p : Program} {l : Launch} {e : Env} {s : State} {m : MethodId} {args : Array Value} {below : List Frame} {meth : Method} {c : Code} {D : va_G} {cI cZ cT : ClassId}

/-! QuarrelWaysLaw.does (LQuarrelWays;I)I -/
def f_L_does (t : TT) (hh : HH) (pp : PP) (a1 : Int32) : Option (Int32 × TT × HH) := ((f_X3_count t hh pp (1 : Int32)).bind fun x1 => ((f_L_low (a1 >>> ((4 : Int32) &&& 31)) x1).bind fun x3 => ((f_L_low (a1 >>> ((7 : Int32) &&& 31)) (x1 - (1 : Int32))).bind fun x5 => (if x1 = 0 then none else ((f_X3_count t hh pp (2 : Int32)).bind fun x8 => (if (a1 &&& (15 : Int32)) = (0 : Int32) then ((f_L_low (a1 >>> ((9 : Int32) &&& 31)) (9 : Int32)).bind fun x12 => ((f_X3_insult t hh pp x3 (((x3 + (1 : Int32)) + x5) - ((x3 + (1 : Int32)) + x5) / x1 * x1) ((1 : Int32) + x12)).bind fun x14 => ((f_L_mild x14.1).bind fun x16 => some (x16, x14.2.1, x14.2.2)))) else (if (a1 &&& (15 : Int32)) = (1 : Int32) then ((f_L_low (a1 >>> ((9 : Int32) &&& 31)) (9 : Int32)).bind fun x19 => ((f_X3_insult t hh pp x3 (((x3 + (1 : Int32)) + x5) - ((x3 + (1 : Int32)) + x5) / x1 * x1) ((1 : Int32) + x19)).bind fun x21 => ((f_L_mild x21.1).bind fun x23 => some (x23, x21.2.1, x21.2.2)))) else (if (a1 &&& (15 : Int32)) = (2 : Int32) then ((f_L_low (a1 >>> ((9 : Int32) &&& 31)) (9 : Int32)).bind fun x26 => ((f_X3_insult t hh pp x3 (((x3 + (1 : Int32)) + x5) - ((x3 + (1 : Int32)) + x5) / x1 * x1) ((1 : Int32) + x26)).bind fun x28 => ((f_L_mild x28.1).bind fun x30 => some (x30, x28.2.1, x28.2.2)))) else (if (a1 &&& (15 : Int32)) = (3 : Int32) then ((f_L_low (a1 >>> ((9 : Int32) &&& 31)) (9 : Int32)).bind fun x33 => ((f_X3_insult t hh pp x3 (((x3 + (1 : Int32)) + x5) - ((x3 + (1 : Int32)) + x5) / x1 * x1) ((1 : Int32) + x33)).bind fun x35 => ((f_L_mild x35.1).bind fun x37 => some (x37, x35.2.1, x35.2.2)))) else (if (a1 &&& (15 : Int32)) = (4 : Int32) then ((f_X3_second t hh pp x3 (((x3 + (1 : Int32)) + x5) - ((x3 + (1 : Int32)) + x5) / x1 * x1)).bind fun x40 => ((f_L_mild x40.1).bind fun x42 => some (x42, x40.2.1, x40.2.2))) else (if (a1 &&& (15 : Int32)) = (5 : Int32) then ((f_L_low (a1 >>> ((4 : Int32) &&& 31)) (5 : Int32)).bind fun x45 => ((f_X3_allow t hh pp x45).bind fun x47 => some (x47.1, x47.2.1, x47.2.2))) else (if (a1 &&& (15 : Int32)) = (6 : Int32) then (if x8 = 0 then some ((0 : Int32), t, hh) else ((f_L_low (a1 >>> ((4 : Int32) &&& 31)) x8).bind fun x51 => ((f_L_low (a1 >>> ((8 : Int32) &&& 31)) (5 : Int32)).bind fun x53 => ((f_X3_settle t hh pp x51 x53).bind fun x55 => ((f_L_mild x55.1).bind fun x57 => some (x57, x55.2.1, x55.2.2)))))) else (if (a1 &&& (15 : Int32)) = (7 : Int32) then (if x8 = 0 then some ((0 : Int32), t, hh) else ((f_L_low (a1 >>> ((4 : Int32) &&& 31)) x8).bind fun x61 => ((f_L_low (a1 >>> ((8 : Int32) &&& 31)) (5 : Int32)).bind fun x63 => ((f_X3_settle t hh pp x61 x63).bind fun x65 => ((f_L_mild x65.1).bind fun x67 => some (x67, x65.2.1, x65.2.2)))))) else (if (a1 &&& (15 : Int32)) = (8 : Int32) then (if x8 = 0 then some ((0 : Int32), t, hh) else ((f_L_low (a1 >>> ((4 : Int32) &&& 31)) x8).bind fun x71 => ((f_X3_fight t hh pp x71).bind fun x73 => ((f_L_mild x73.1).bind fun x75 => some (x75, x73.2.1, x73.2.2))))) else (if (a1 &&& (15 : Int32)) = (9 : Int32) then (if x8 = 0 then some ((0 : Int32), t, hh) else ((f_L_low (a1 >>> ((4 : Int32) &&& 31)) x8).bind fun x79 => ((f_X3_fight t hh pp x79).bind fun x81 => ((f_L_mild x81.1).bind fun x83 => some (x83, x81.2.1, x81.2.2))))) else (if (a1 &&& (15 : Int32)) = (10 : Int32) then ((f_X3_swear t hh pp x3).bind fun x86 => ((f_L_mild x86.1).bind fun x88 => some (x88, x86.2.1, x86.2.2))) else (if (a1 &&& (15 : Int32)) = (11 : Int32) then ((f_L_low (a1 >>> ((4 : Int32) &&& 31)) (10 : Int32)).bind fun x91 => ((f_L_low (a1 >>> ((7 : Int32) &&& 31)) (10 : Int32)).bind fun x93 => ((f_X3_person t hh pp x91 x93).bind fun x95 => ((f_L_mild x95.1).bind fun x97 => some (x97, x95.2.1, x95.2.2))))) else (if (a1 &&& (15 : Int32)) = (12 : Int32) then ((f_L_low (a1 >>> ((4 : Int32) &&& 31)) (4 : Int32)).bind fun x100 => (if x100 = 0 then ((f_L_low (a1 >>> ((6 : Int32) &&& 31)) (12 : Int32)).bind fun x117 => ((f_X3_set t hh pp x100 ((1 : Int32) + x117)).bind fun x119 => some (x119.1, x119.2.1, x119.2.2))) else (if x100 = (1 : Int32) then ((f_L_low (a1 >>> ((6 : Int32) &&& 31)) (40 : Int32)).bind fun x113 => ((f_X3_set t hh pp x100 x113).bind fun x115 => some (x115.1, x115.2.1, x115.2.2))) else (if x100 = (2 : Int32) then ((f_L_low (a1 >>> ((6 : Int32) &&& 31)) (60 : Int32)).bind fun x109 => ((f_X3_set t hh pp x100 ((1 : Int32) + x109)).bind fun x111 => some (x111.1, x111.2.1, x111.2.2))) else ((f_L_low (a1 >>> ((6 : Int32) &&& 31)) (200 : Int32)).bind fun x105 => ((f_X3_set t hh pp x100 x105).bind fun x107 => some (x107.1, x107.2.1, x107.2.2))))))) else (((if ((a1 >>> ((9 : Int32) &&& 31)) &&& (1 : Int32)) = 0 then some (8 : Int32) else some (60 : Int32)) : Option (Int32)).bind fun v121 => ((f_L_low (a1 >>> ((4 : Int32) &&& 31)) v121).bind fun x122 => ((f_X3_pass t hh pp ((1 : Int32) + x122)).bind fun x124 => some (x124.1, x124.2.1, x124.2.2))))))))))))))))))))))
abbrev rm_L_does : Room := { frames := 7, cells := 0, slots := 0, locals := 158 }
theorem hd_L_does : yL_does.cls = RL ∧ yL_does.cls ≠ "java/lang/invoke/MethodHandle" ∧ yL_does.cls ≠ "java/lang/invoke/VarHandle" ∧ (parseMethodDescriptor yL_does.desc).map (fun d => d.parameters.length) = some 2 := by decide +kernel
set_option maxHeartbeats 4000000 in
set_option maxRecDepth 100000 in
theorem c_L_does (l : Launch) (D : va_G) (cI cZ cT : ClassId) (G : q_G) (sz : Nat) (w sl : Nat) (o a : Nat) (t : TT) (hs hst : Nat) (ta ca : Nat → Nat) (hh : HH) (pd sg nm : Nat) (pp : PP) (a1 : Int32) (r : Int32 × TT × HH) (h : f_L_does t hh pp a1 = some r) : Met l yL_does (wq yL_does cL_does 7 (some .int)) rm_L_does (q_M D (q_tys cI cZ cT) sz ((wX w o hs pd sl) ++ (wT cI o a t) ++ (wH cI cT hs hst ta ca hh) ++ (wPd cI pd sg nm pp)) (q_E G (va_A ((wX w o hs pd sl) ++ (wT cI o a t) ++ (wH cI cT hs hst ta ca hh) ++ (wPd cI pd sg nm pp)) sz)) [.ref w, .int a1]) (va_Qi (fun r' _ => r' = r.1) (q_B D ((wX w o hs pd sl) ++ (wT cI o a t) ++ (wH cI cT hs hst ta ca hh) ++ (wPd cI pd sg nm pp)) sz ((wX w o hs pd sl) ++ (wT cI o a r.2.1) ++ (wH cI cT hs hst ta ca r.2.2) ++ (wPd cI pd sg nm pp))) (va_A ((wX w o hs pd sl) ++ (wT cI o a t) ++ (wH cI cT hs hst ta ca hh) ++ (wPd cI pd sg nm pp)) sz)) 0 0 (va_A ((wX w o hs pd sl) ++ (wT cI o a t) ++ (wH cI cT hs hst ta ca hh) ++ (wPd cI pd sg nm pp)) sz) := by
  refine q_MI (cc := cL_does) (maxL := 7) (ret := (some .int)) (E := fun sz => (q_E G (va_A ((wX w o hs pd sl) ++ (wT cI o a t) ++ (wH cI cT hs hst ta ca hh) ++ (wPd cI pd sg nm pp)) sz))) (Qc := fun sz => (va_Qi (fun r' _ => r' = r.1) (q_B D ((wX w o hs pd sl) ++ (wT cI o a t) ++ (wH cI cT hs hst ta ca hh) ++ (wPd cI pd sg nm pp)) sz ((wX w o hs pd sl) ++ (wT cI o a r.2.1) ++ (wH cI cT hs hst ta ca r.2.2) ++ (wPd cI pd sg nm pp))) (va_A ((wX w o hs pd sl) ++ (wT cI o a t) ++ (wH cI cT hs hst ta ca hh) ++ (wPd cI pd sg nm pp)) sz))) (free := fun sz => va_A ((wX w o hs pd sl) ++ (wT cI o a t) ++ (wH cI cT hs hst ta ca hh) ++ (wPd cI pd sg nm pp)) sz) (plainFor_of_name (by decide)) (Nat.le_of_ble_eq_true rfl) (fun p e s m below meth c C0 hname hP hK hD hE ls hl => ?_)
  have hA : ∀ q, s.heap.size ≤ q → (va_A ((wX w o hs pd sl) ++ (wT cI o a t) ++ (wH cI cT hs hst ta ca hh) ++ (wPd cI pd sg nm pp)) s.heap.size) q := fun _ => Or.inr
  have hS : va_S (va_A ((wX w o hs pd sl) ++ (wT cI o a t) ++ (wH cI cT hs hst ta ca hh) ++ (wPd cI pd sg nm pp)) s.heap.size) s.heap s.heap [] := va_S.rf
  have hE : q_E G (va_A ((wX w o hs pd sl) ++ (wT cI o a t) ++ (wH cI cT hs hst ta ca hh) ++ (wPd cI pd sg nm pp)) s.heap.size) s := hE
  have hl : lv_has ls 7 [(0, .ref w), (1, .int a1)] := hl
  obtain ⟨hx, hb, hr, hml, hown, hts, hlocks⟩ := id C0
  have hF : CallFix p m c cL_does 7 s _ BW RL := ⟨hx, hb, hml, hown, hts⟩
  rw [f_L_does] at h
  refine lv_aload_n hx hb dL_does_0 rfl (lv_at hl 0 rfl) ?_
  refine lv_iconst (v := 1) hx hb dL_does_1 (by decide) ?_
  obtain ⟨x1, h2, h⟩ := bE h
  refine x_RV (As := [.int (1 : Int32)]) (rest := []) hF (c_X3_count l D cI cZ cT G (va_A ((wX w o hs pd sl) ++ (wT cI o a t) ++ (wH cI cT hs hst ta ca hh) ++ (wPd cI pd sg nm pp)) s.heap.size) w sl o a t hs hst ta ca hh pd sg nm pp (1 : Int32) x1 h2) (cwV 1 hts (gqV mw_304 mw_305 mw_306 mw_51 mw_283) rfl rfl rfl hd_X3_count ⟨Nat.le_of_ble_eq_true rfl, Nat.le_of_ble_eq_true rfl⟩) hK hP q_E_bl (q_E_go hE hS (fun _ h9 => h9)) [0, 1, 2, 3, 4, 5, 6, 7, 8, 9, 10, 11, 12, 13, 14, 15, 16, 17, 18, 19, 20, 21] rfl rfl rfl rfl hl.1 rfl (Nat.le_of_ble_eq_true rfl) dL_does_2 ⟨Nat.zero_le _, Nat.zero_le _⟩ ?_
  refine lv_istore_n (lv' := [(2, .int x1), (0, .ref w), (1, .int a1)]) hx hb dL_does_5 rfl hl (by decide) rfl (fun ls hl => ?_)
  refine lv_iload_n hx hb dL_does_6 rfl (lv_at hl 2 rfl) ?_
  refine lv_iconst (v := 4) hx hb dL_does_7 (by decide) ?_
  refine lv_ishr hx hb dL_does_8 ?_
  refine lv_iload_n hx hb dL_does_9 rfl (lv_at hl 0 rfl) ?_
  obtain ⟨x3, h4, h⟩ := bE h
  refine x_RS (As := [.int (a1 >>> ((4 : Int32) &&& 31)), .int x1]) (rest := []) hF (c_L_low l D cI cZ cT  (a1 >>> ((4 : Int32) &&& 31)) x1 x3 h4) (va_cwS 2 hts (gqS mw_307 mw_308 mw_309 mw_301) rfl rfl rfl hd_L_low.2 ⟨Nat.le_of_ble_eq_true rfl, Nat.le_of_ble_eq_true rfl⟩) hK hP q_T_bl (fun _ _ _ => (trivial : True)) [] rfl rfl hl.1 rfl (Nat.le_of_ble_eq_true rfl) dL_does_10 ⟨Nat.zero_le _, Nat.zero_le _⟩ ?_
  refine lv_istore_n (lv' := [(3, .int x3), (2, .int x1), (0, .ref w), (1, .int a1)]) hx hb dL_does_13 rfl hl (by decide) rfl (fun ls hl => ?_)
  refine lv_iload_n hx hb dL_does_14 rfl (lv_at hl 0 rfl) ?_
  refine lv_iconst (v := 1) hx hb dL_does_15 (by decide) ?_
  refine lv_iadd hx hb dL_does_16 ?_
  refine lv_iload_n hx hb dL_does_17 rfl (lv_at hl 3 rfl) ?_
  refine lv_bipush (v := 7) hx hb dL_does_18 (by decide) ?_
  refine lv_ishr hx hb dL_does_20 ?_
  refine lv_iload_n hx hb dL_does_21 rfl (lv_at hl 1 rfl) ?_
  refine lv_iconst (v := 1) hx hb dL_does_22 (by decide) ?_
  refine lv_isub hx hb dL_does_23 ?_
  obtain ⟨x5, h6, h⟩ := bE h
  refine x_RS (As := [.int (a1 >>> ((7 : Int32) &&& 31)), .int (x1 - (1 : Int32))]) (rest := [.int (x3 + (1 : Int32))]) hF (c_L_low l D cI cZ cT  (a1 >>> ((7 : Int32) &&& 31)) (x1 - (1 : Int32)) x5 h6) (va_cwS 2 hts (gqS mw_307 mw_308 mw_309 mw_301) rfl rfl rfl hd_L_low.2 ⟨Nat.le_of_ble_eq_true rfl, Nat.le_of_ble_eq_true rfl⟩) hK hP q_T_bl (fun _ _ _ => (trivial : True)) [] rfl rfl hl.1 rfl (Nat.le_of_ble_eq_true rfl) dL_does_24 ⟨Nat.zero_le _, Nat.zero_le _⟩ ?_
  refine lv_iadd hx hb dL_does_27 ?_
  refine lv_iload_n hx hb dL_does_28 rfl (lv_at hl 1 rfl) ?_
  by_cases c7 : x1 = 0
  · have h := xt c7 h
    cases h
  have h := xf c7 h
  refine lv_irem hx hb dL_does_29 c7 ?_
  refine lv_istore (lv' := [(4, .int (((x3 + (1 : Int32)) + x5) - ((x3 + (1 : Int32)) + x5) / x1 * x1)), (3, .int x3), (2, .int x1), (0, .ref w), (1, .int a1)]) hx hb dL_does_30 hl (by decide) rfl (fun ls hl => ?_)
  refine lv_aload_n hx hb dL_does_32 rfl (lv_at hl 3 rfl) ?_
  refine lv_iconst (v := 2) hx hb dL_does_33 (by decide) ?_
  obtain ⟨x8, h9, h⟩ := bE h
  refine x_RV (As := [.int (2 : Int32)]) (rest := []) hF (c_X3_count l D cI cZ cT G (va_A ((wX w o hs pd sl) ++ (wT cI o a t) ++ (wH cI cT hs hst ta ca hh) ++ (wPd cI pd sg nm pp)) s.heap.size) w sl o a t hs hst ta ca hh pd sg nm pp (2 : Int32) x8 h9) (cwV 1 hts (gqV mw_304 mw_305 mw_306 mw_51 mw_283) rfl rfl rfl hd_X3_count ⟨Nat.le_of_ble_eq_true rfl, Nat.le_of_ble_eq_true rfl⟩) hK hP q_E_bl (q_E_go hE hS (fun _ h9 => h9)) [0, 1, 2, 3, 4, 5, 6, 7, 8, 9, 10, 11, 12, 13, 14, 15, 16, 17, 18, 19, 20, 21] rfl rfl rfl rfl hl.1 rfl (Nat.le_of_ble_eq_true rfl) dL_does_34 ⟨Nat.zero_le _, Nat.zero_le _⟩ ?_
  refine lv_istore (lv' := [(5, .int x8), (4, .int (((x3 + (1 : Int32)) + x5) - ((x3 + (1 : Int32)) + x5) / x1 * x1)), (3, .int x3), (2, .int x1), (0, .ref w), (1, .int a1)]) hx hb dL_does_37 hl (by decide) rfl (fun ls hl => ?_)
  refine lv_iload_n hx hb dL_does_39 rfl (lv_at hl 5 rfl) ?_
  refine lv_bipush (v := 15) hx hb dL_does_40 (by decide) ?_
  refine lv_iand hx hb dL_does_42 ?_
  by_cases c11 : (a1 &&& (15 : Int32)) = (0 : Int32)
  · have h := xt c11 h
    refine lv_tableIn (tgt := 108) hx hb dL_does_43 (by rw [c11]; decide) (by rw [c11]; decide) (off := 65) (by rw [c11]; rfl) (by decide) ?_
    refine lv_aload_n hx hb dL_does_108 rfl (lv_at hl 4 rfl) ?_
    refine lv_iload_n hx hb dL_does_109 rfl (lv_at hl 2 rfl) ?_
    refine lv_iload hx hb dL_does_110 (lv_at hl 1 rfl) ?_
    refine lv_iconst (v := 1) hx hb dL_does_112 (by decide) ?_
    refine lv_iload_n hx hb dL_does_113 rfl (lv_at hl 5 rfl) ?_
    refine lv_bipush (v := 9) hx hb dL_does_114 (by decide) ?_
    refine lv_ishr hx hb dL_does_116 ?_
    refine lv_bipush (v := 9) hx hb dL_does_117 (by decide) ?_
    obtain ⟨x12, h13, h⟩ := bE h
    refine x_RS (As := [.int (a1 >>> ((9 : Int32) &&& 31)), .int (9 : Int32)]) (rest := [.int (1 : Int32), .int (((x3 + (1 : Int32)) + x5) - ((x3 + (1 : Int32)) + x5) / x1 * x1), .int x3, .ref w]) hF (c_L_low l D cI cZ cT  (a1 >>> ((9 : Int32) &&& 31)) (9 : Int32) x12 h13) (va_cwS 2 hts (gqS mw_307 mw_308 mw_309 mw_301) rfl rfl rfl hd_L_low.2 ⟨Nat.le_of_ble_eq_true rfl, Nat.le_of_ble_eq_true rfl⟩) hK hP q_T_bl (fun _ _ _ => (trivial : True)) [] rfl rfl hl.1 rfl (Nat.le_of_ble_eq_true rfl) dL_does_119 ⟨Nat.zero_le _, Nat.zero_le _⟩ ?_
    refine lv_iadd hx hb dL_does_122 ?_
    obtain ⟨x14, h15, h⟩ := bE h
    refine x_MVp (As := [.int x3, .int (((x3 + (1 : Int32)) + x5) - ((x3 + (1 : Int32)) + x5) / x1 * x1), .int ((1 : Int32) + x12)]) (rest := []) (wr := []) (W1 := (wX w o hs pd sl) ++ (wT cI o a x14.2.1) ++ (wH cI cT hs hst ta ca x14.2.2) ++ (wPd cI pd sg nm pp)) hF (c_X3_insult l D cI cZ cT G _ w sl o a t hs hst ta ca hh pd sg nm pp x3 (((x3 + (1 : Int32)) + x5) - ((x3 + (1 : Int32)) + x5) / x1 * x1) ((1 : Int32) + x12) x14 h15) (cwV 3 hts (gqV mw_310 mw_311 mw_312 mw_51 mw_245) rfl rfl rfl hd_X3_insult ⟨Nat.le_of_ble_eq_true rfl, Nat.le_of_ble_eq_true rfl⟩) hK hP hD hS hA q_E_bl (q_E_go hE hS (q_freep (p4_A (wX w o hs pd sl) (wT cI o a t) (wH cI cT hs hst ta ca hh) (wPd cI pd sg nm pp)) hD hS hA)) (p4_A (wX w o hs pd sl) (wT cI o a t) (wH cI cT hs hst ta ca hh) (wPd cI pd sg nm pp)) (p4_A (wX w o hs pd sl) (wT cI o a x14.2.1) (wH cI cT hs hst ta ca x14.2.2) (wPd cI pd sg nm pp)).symm rfl rfl rfl hl.1 rfl (Nat.le_of_ble_eq_true rfl) dL_does_123 ⟨Nat.zero_le _, Nat.zero_le _⟩ (fun H locs hP hD hS => ?_)
    obtain ⟨x16, h17, h⟩ := bE h
    refine x_RS (As := [.int x14.1]) (rest := []) hF (c_L_mild l D cI cZ cT  x14.1 x16 h17) (va_cwS 1 hts (gqS mw_313 mw_314 mw_309 mw_303) rfl rfl rfl hd_L_mild.2 ⟨Nat.le_of_ble_eq_true rfl, Nat.le_of_ble_eq_true rfl⟩) hK hP q_T_bl (fun _ _ _ => (trivial : True)) [] rfl rfl hl.1 rfl (Nat.le_of_ble_eq_true rfl) dL_does_126 ⟨Nat.zero_le _, Nat.zero_le _⟩ ?_
    cases h
    exact x_retM C0 rfl hP hD hS dL_does_129
  have h := xf c11 h
  by_cases c18 : (a1 &&& (15 : Int32)) = (1 : Int32)
  · have h := xt c18 h
    refine lv_tableIn (tgt := 108) hx hb dL_does_43 (by rw [c18]; decide) (by rw [c18]; decide) (off := 65) (by rw [c18]; rfl) (by decide) ?_
    refine lv_aload_n hx hb dL_does_108 rfl (lv_at hl 4 rfl) ?_
    refine lv_iload_n hx hb dL_does_109 rfl (lv_at hl 2 rfl) ?_
    refine lv_iload hx hb dL_does_110 (lv_at hl 1 rfl) ?_
    refine lv_iconst (v := 1) hx hb dL_does_112 (by decide) ?_
    refine lv_iload_n hx hb dL_does_113 rfl (lv_at hl 5 rfl) ?_
    refine lv_bipush (v := 9) hx hb dL_does_114 (by decide) ?_
    refine lv_ishr hx hb dL_does_116 ?_
    refine lv_bipush (v := 9) hx hb dL_does_117 (by decide) ?_
    obtain ⟨x19, h20, h⟩ := bE h
    refine x_RS (As := [.int (a1 >>> ((9 : Int32) &&& 31)), .int (9 : Int32)]) (rest := [.int (1 : Int32), .int (((x3 + (1 : Int32)) + x5) - ((x3 + (1 : Int32)) + x5) / x1 * x1), .int x3, .ref w]) hF (c_L_low l D cI cZ cT  (a1 >>> ((9 : Int32) &&& 31)) (9 : Int32) x19 h20) (va_cwS 2 hts (gqS mw_307 mw_308 mw_309 mw_301) rfl rfl rfl hd_L_low.2 ⟨Nat.le_of_ble_eq_true rfl, Nat.le_of_ble_eq_true rfl⟩) hK hP q_T_bl (fun _ _ _ => (trivial : True)) [] rfl rfl hl.1 rfl (Nat.le_of_ble_eq_true rfl) dL_does_119 ⟨Nat.zero_le _, Nat.zero_le _⟩ ?_
    refine lv_iadd hx hb dL_does_122 ?_
    obtain ⟨x21, h22, h⟩ := bE h
    refine x_MVp (As := [.int x3, .int (((x3 + (1 : Int32)) + x5) - ((x3 + (1 : Int32)) + x5) / x1 * x1), .int ((1 : Int32) + x19)]) (rest := []) (wr := []) (W1 := (wX w o hs pd sl) ++ (wT cI o a x21.2.1) ++ (wH cI cT hs hst ta ca x21.2.2) ++ (wPd cI pd sg nm pp)) hF (c_X3_insult l D cI cZ cT G _ w sl o a t hs hst ta ca hh pd sg nm pp x3 (((x3 + (1 : Int32)) + x5) - ((x3 + (1 : Int32)) + x5) / x1 * x1) ((1 : Int32) + x19) x21 h22) (cwV 3 hts (gqV mw_310 mw_311 mw_312 mw_51 mw_245) rfl rfl rfl hd_X3_insult ⟨Nat.le_of_ble_eq_true rfl, Nat.le_of_ble_eq_true rfl⟩) hK hP hD hS hA q_E_bl (q_E_go hE hS (q_freep (p4_A (wX w o hs pd sl) (wT cI o a t) (wH cI cT hs hst ta ca hh) (wPd cI pd sg nm pp)) hD hS hA)) (p4_A (wX w o hs pd sl) (wT cI o a t) (wH cI cT hs hst ta ca hh) (wPd cI pd sg nm pp)) (p4_A (wX w o hs pd sl) (wT cI o a x21.2.1) (wH cI cT hs hst ta ca x21.2.2) (wPd cI pd sg nm pp)).symm rfl rfl rfl hl.1 rfl (Nat.le_of_ble_eq_true rfl) dL_does_123 ⟨Nat.zero_le _, Nat.zero_le _⟩ (fun H locs hP hD hS => ?_)
    obtain ⟨x23, h24, h⟩ := bE h
    refine x_RS (As := [.int x21.1]) (rest := []) hF (c_L_mild l D cI cZ cT  x21.1 x23 h24) (va_cwS 1 hts (gqS mw_313 mw_314 mw_309 mw_303) rfl rfl rfl hd_L_mild.2 ⟨Nat.le_of_ble_eq_true rfl, Nat.le_of_ble_eq_true rfl⟩) hK hP q_T_bl (fun _ _ _ => (trivial : True)) [] rfl rfl hl.1 rfl (Nat.le_of_ble_eq_true rfl) dL_does_126 ⟨Nat.zero_le _, Nat.zero_le _⟩ ?_
    cases h
    exact x_retM C0 rfl hP hD hS dL_does_129
  have h := xf c18 h
  by_cases c25 : (a1 &&& (15 : Int32)) = (2 : Int32)
  · have h := xt c25 h
    refine lv_tableIn (tgt := 108) hx hb dL_does_43 (by rw [c25]; decide) (by rw [c25]; decide) (off := 65) (by rw [c25]; rfl) (by decide) ?_
    refine lv_aload_n hx hb dL_does_108 rfl (lv_at hl 4 rfl) ?_
    refine lv_iload_n hx hb dL_does_109 rfl (lv_at hl 2 rfl) ?_
    refine lv_iload hx hb dL_does_110 (lv_at hl 1 rfl) ?_
    refine lv_iconst (v := 1) hx hb dL_does_112 (by decide) ?_
    refine lv_iload_n hx hb dL_does_113 rfl (lv_at hl 5 rfl) ?_
    refine lv_bipush (v := 9) hx hb dL_does_114 (by decide) ?_
    refine lv_ishr hx hb dL_does_116 ?_
    refine lv_bipush (v := 9) hx hb dL_does_117 (by decide) ?_
    obtain ⟨x26, h27, h⟩ := bE h
    refine x_RS (As := [.int (a1 >>> ((9 : Int32) &&& 31)), .int (9 : Int32)]) (rest := [.int (1 : Int32), .int (((x3 + (1 : Int32)) + x5) - ((x3 + (1 : Int32)) + x5) / x1 * x1), .int x3, .ref w]) hF (c_L_low l D cI cZ cT  (a1 >>> ((9 : Int32) &&& 31)) (9 : Int32) x26 h27) (va_cwS 2 hts (gqS mw_307 mw_308 mw_309 mw_301) rfl rfl rfl hd_L_low.2 ⟨Nat.le_of_ble_eq_true rfl, Nat.le_of_ble_eq_true rfl⟩) hK hP q_T_bl (fun _ _ _ => (trivial : True)) [] rfl rfl hl.1 rfl (Nat.le_of_ble_eq_true rfl) dL_does_119 ⟨Nat.zero_le _, Nat.zero_le _⟩ ?_
    refine lv_iadd hx hb dL_does_122 ?_
    obtain ⟨x28, h29, h⟩ := bE h
    refine x_MVp (As := [.int x3, .int (((x3 + (1 : Int32)) + x5) - ((x3 + (1 : Int32)) + x5) / x1 * x1), .int ((1 : Int32) + x26)]) (rest := []) (wr := []) (W1 := (wX w o hs pd sl) ++ (wT cI o a x28.2.1) ++ (wH cI cT hs hst ta ca x28.2.2) ++ (wPd cI pd sg nm pp)) hF (c_X3_insult l D cI cZ cT G _ w sl o a t hs hst ta ca hh pd sg nm pp x3 (((x3 + (1 : Int32)) + x5) - ((x3 + (1 : Int32)) + x5) / x1 * x1) ((1 : Int32) + x26) x28 h29) (cwV 3 hts (gqV mw_310 mw_311 mw_312 mw_51 mw_245) rfl rfl rfl hd_X3_insult ⟨Nat.le_of_ble_eq_true rfl, Nat.le_of_ble_eq_true rfl⟩) hK hP hD hS hA q_E_bl (q_E_go hE hS (q_freep (p4_A (wX w o hs pd sl) (wT cI o a t) (wH cI cT hs hst ta ca hh) (wPd cI pd sg nm pp)) hD hS hA)) (p4_A (wX w o hs pd sl) (wT cI o a t) (wH cI cT hs hst ta ca hh) (wPd cI pd sg nm pp)) (p4_A (wX w o hs pd sl) (wT cI o a x28.2.1) (wH cI cT hs hst ta ca x28.2.2) (wPd cI pd sg nm pp)).symm rfl rfl rfl hl.1 rfl (Nat.le_of_ble_eq_true rfl) dL_does_123 ⟨Nat.zero_le _, Nat.zero_le _⟩ (fun H locs hP hD hS => ?_)
    obtain ⟨x30, h31, h⟩ := bE h
    refine x_RS (As := [.int x28.1]) (rest := []) hF (c_L_mild l D cI cZ cT  x28.1 x30 h31) (va_cwS 1 hts (gqS mw_313 mw_314 mw_309 mw_303) rfl rfl rfl hd_L_mild.2 ⟨Nat.le_of_ble_eq_true rfl, Nat.le_of_ble_eq_true rfl⟩) hK hP q_T_bl (fun _ _ _ => (trivial : True)) [] rfl rfl hl.1 rfl (Nat.le_of_ble_eq_true rfl) dL_does_126 ⟨Nat.zero_le _, Nat.zero_le _⟩ ?_
    cases h
    exact x_retM C0 rfl hP hD hS dL_does_129
  have h := xf c25 h
  by_cases c32 : (a1 &&& (15 : Int32)) = (3 : Int32)
  · have h := xt c32 h
    refine lv_tableIn (tgt := 108) hx hb dL_does_43 (by rw [c32]; decide) (by rw [c32]; decide) (off := 65) (by rw [c32]; rfl) (by decide) ?_
    refine lv_aload_n hx hb dL_does_108 rfl (lv_at hl 4 rfl) ?_
    refine lv_iload_n hx hb dL_does_109 rfl (lv_at hl 2 rfl) ?_
    refine lv_iload hx hb dL_does_110 (lv_at hl 1 rfl) ?_
    refine lv_iconst (v := 1) hx hb dL_does_112 (by decide) ?_
    refine lv_iload_n hx hb dL_does_113 rfl (lv_at hl 5 rfl) ?_
    refine lv_bipush (v := 9) hx hb dL_does_114 (by decide) ?_
    refine lv_ishr hx hb dL_does_116 ?_
    refine lv_bipush (v := 9) hx hb dL_does_117 (by decide) ?_
    obtain ⟨x33, h34, h⟩ := bE h
    refine x_RS (As := [.int (a1 >>> ((9 : Int32) &&& 31)), .int (9 : Int32)]) (rest := [.int (1 : Int32), .int (((x3 + (1 : Int32)) + x5) - ((x3 + (1 : Int32)) + x5) / x1 * x1), .int x3, .ref w]) hF (c_L_low l D cI cZ cT  (a1 >>> ((9 : Int32) &&& 31)) (9 : Int32) x33 h34) (va_cwS 2 hts (gqS mw_307 mw_308 mw_309 mw_301) rfl rfl rfl hd_L_low.2 ⟨Nat.le_of_ble_eq_true rfl, Nat.le_of_ble_eq_true rfl⟩) hK hP q_T_bl (fun _ _ _ => (trivial : True)) [] rfl rfl hl.1 rfl (Nat.le_of_ble_eq_true rfl) dL_does_119 ⟨Nat.zero_le _, Nat.zero_le _⟩ ?_
    refine lv_iadd hx hb dL_does_122 ?_
    obtain ⟨x35, h36, h⟩ := bE h
    refine x_MVp (As := [.int x3, .int (((x3 + (1 : Int32)) + x5) - ((x3 + (1 : Int32)) + x5) / x1 * x1), .int ((1 : Int32) + x33)]) (rest := []) (wr := []) (W1 := (wX w o hs pd sl) ++ (wT cI o a x35.2.1) ++ (wH cI cT hs hst ta ca x35.2.2) ++ (wPd cI pd sg nm pp)) hF (c_X3_insult l D cI cZ cT G _ w sl o a t hs hst ta ca hh pd sg nm pp x3 (((x3 + (1 : Int32)) + x5) - ((x3 + (1 : Int32)) + x5) / x1 * x1) ((1 : Int32) + x33) x35 h36) (cwV 3 hts (gqV mw_310 mw_311 mw_312 mw_51 mw_245) rfl rfl rfl hd_X3_insult ⟨Nat.le_of_ble_eq_true rfl, Nat.le_of_ble_eq_true rfl⟩) hK hP hD hS hA q_E_bl (q_E_go hE hS (q_freep (p4_A (wX w o hs pd sl) (wT cI o a t) (wH cI cT hs hst ta ca hh) (wPd cI pd sg nm pp)) hD hS hA)) (p4_A (wX w o hs pd sl) (wT cI o a t) (wH cI cT hs hst ta ca hh) (wPd cI pd sg nm pp)) (p4_A (wX w o hs pd sl) (wT cI o a x35.2.1) (wH cI cT hs hst ta ca x35.2.2) (wPd cI pd sg nm pp)).symm rfl rfl rfl hl.1 rfl (Nat.le_of_ble_eq_true rfl) dL_does_123 ⟨Nat.zero_le _, Nat.zero_le _⟩ (fun H locs hP hD hS => ?_)
    obtain ⟨x37, h38, h⟩ := bE h
    refine x_RS (As := [.int x35.1]) (rest := []) hF (c_L_mild l D cI cZ cT  x35.1 x37 h38) (va_cwS 1 hts (gqS mw_313 mw_314 mw_309 mw_303) rfl rfl rfl hd_L_mild.2 ⟨Nat.le_of_ble_eq_true rfl, Nat.le_of_ble_eq_true rfl⟩) hK hP q_T_bl (fun _ _ _ => (trivial : True)) [] rfl rfl hl.1 rfl (Nat.le_of_ble_eq_true rfl) dL_does_126 ⟨Nat.zero_le _, Nat.zero_le _⟩ ?_
    cases h
    exact x_retM C0 rfl hP hD hS dL_does_129
  have h := xf c32 h
  by_cases c39 : (a1 &&& (15 : Int32)) = (4 : Int32)
  · have h := xt c39 h
    refine lv_tableIn (tgt := 130) hx hb dL_does_43 (by rw [c39]; decide) (by rw [c39]; decide) (off := 87) (by rw [c39]; rfl) (by decide) ?_
    refine lv_aload_n hx hb dL_does_130 rfl (lv_at hl 4 rfl) ?_
    refine lv_iload_n hx hb dL_does_131 rfl (lv_at hl 2 rfl) ?_
    refine lv_iload hx hb dL_does_132 (lv_at hl 1 rfl) ?_
    obtain ⟨x40, h41, h⟩ := bE h
    refine x_MVp (As := [.int x3, .int (((x3 + (1 : Int32)) + x5) - ((x3 + (1 : Int32)) + x5) / x1 * x1)]) (rest := []) (wr := []) (W1 := (wX w o hs pd sl) ++ (wT cI o a x40.2.1) ++ (wH cI cT hs hst ta ca x40.2.2) ++ (wPd cI pd sg nm pp)) hF (c_X3_second l D cI cZ cT G _ w sl o a t hs hst ta ca hh pd sg nm pp x3 (((x3 + (1 : Int32)) + x5) - ((x3 + (1 : Int32)) + x5) / x1 * x1) x40 h41) (cwV 2 hts (gqV mw_315 mw_316 mw_317 mw_51 mw_239) rfl rfl rfl hd_X3_second ⟨Nat.le_of_ble_eq_true rfl, Nat.le_of_ble_eq_true rfl⟩) hK hP hD hS hA q_E_bl (q_E_go hE hS (q_freep (p4_A (wX w o hs pd sl) (wT cI o a t) (wH cI cT hs hst ta ca hh) (wPd cI pd sg nm pp)) hD hS hA)) (p4_A (wX w o hs pd sl) (wT cI o a t) (wH cI cT hs hst ta ca hh) (wPd cI pd sg nm pp)) (p4_A (wX w o hs pd sl) (wT cI o a x40.2.1) (wH cI cT hs hst ta ca x40.2.2) (wPd cI pd sg nm pp)).symm rfl rfl rfl hl.1 rfl (Nat.le_of_ble_eq_true rfl) dL_does_134 ⟨Nat.zero_le _, Nat.zero_le _⟩ (fun H locs hP hD hS => ?_)
    obtain ⟨x42, h43, h⟩ := bE h
    refine x_RS (As := [.int x40.1]) (rest := []) hF (c_L_mild l D cI cZ cT  x40.1 x42 h43) (va_cwS 1 hts (gqS mw_313 mw_314 mw_309 mw_303) rfl rfl rfl hd_L_mild.2 ⟨Nat.le_of_ble_eq_true rfl, Nat.le_of_ble_eq_true rfl⟩) hK hP q_T_bl (fun _ _ _ => (trivial : True)) [] rfl rfl hl.1 rfl (Nat.le_of_ble_eq_true rfl) dL_does_137 ⟨Nat.zero_le _, Nat.zero_le _⟩ ?_
    cases h
    exact x_retM C0 rfl hP hD hS dL_does_140
  have h := xf c39 h
  by_cases c44 : (a1 &&& (15 : Int32)) = (5 : Int32)
  · have h := xt c44 h
    refine lv_tableIn (tgt := 141) hx hb dL_does_43 (by rw [c44]; decide) (by rw [c44]; decide) (off := 98) (by rw [c44]; rfl) (by decide) ?_
    refine lv_aload_n hx hb dL_does_141 rfl (lv_at hl 4 rfl) ?_
    refine lv_iload_n hx hb dL_does_142 rfl (lv_at hl 5 rfl) ?_
    refine lv_iconst (v := 4) hx hb dL_does_143 (by decide) ?_
    refine lv_ishr hx hb dL_does_144 ?_
    refine lv_iconst (v := 5) hx hb dL_does_145 (by decide) ?_
    obtain ⟨x45, h46, h⟩ := bE h
    refine x_RS (As := [.int (a1 >>> ((4 : Int32) &&& 31)), .int (5 : Int32)]) (rest := [.ref w]) hF (c_L_low l D cI cZ cT  (a1 >>> ((4 : Int32) &&& 31)) (5 : Int32) x45 h46) (va_cwS 2 hts (gqS mw_307 mw_308 mw_309 mw_301) rfl rfl rfl hd_L_low.2 ⟨Nat.le_of_ble_eq_true rfl, Nat.le_of_ble_eq_true rfl⟩) hK hP q_T_bl (fun _ _ _ => (trivial : True)) [] rfl rfl hl.1 rfl (Nat.le_of_ble_eq_true rfl) dL_does_146 ⟨Nat.zero_le _, Nat.zero_le _⟩ ?_
    obtain ⟨x47, h48, h⟩ := bE h
    refine x_MVp (As := [.int x45]) (rest := []) (wr := []) (W1 := (wX w o hs pd sl) ++ (wT cI o a x47.2.1) ++ (wH cI cT hs hst ta ca x47.2.2) ++ (wPd cI pd sg nm pp)) hF (c_X3_allow l D cI cZ cT G _ w sl o a t hs hst ta ca hh pd sg nm pp x45 x47 h48) (cwV 1 hts (gqV mw_318 mw_319 mw_320 mw_51 mw_242) rfl rfl rfl hd_X3_allow ⟨Nat.le_of_ble_eq_true rfl, Nat.le_of_ble_eq_true rfl⟩) hK hP hD hS hA q_E_bl (q_E_go hE hS (q_freep (p4_A (wX w o hs pd sl) (wT cI o a t) (wH cI cT hs hst ta ca hh) (wPd cI pd sg nm pp)) hD hS hA)) (p4_A (wX w o hs pd sl) (wT cI o a t) (wH cI cT hs hst ta ca hh) (wPd cI pd sg nm pp)) (p4_A (wX w o hs pd sl) (wT cI o a x47.2.1) (wH cI cT hs hst ta ca x47.2.2) (wPd cI pd sg nm pp)).symm rfl rfl rfl hl.1 rfl (Nat.le_of_ble_eq_true rfl) dL_does_149 ⟨Nat.zero_le _, Nat.zero_le _⟩ (fun H locs hP hD hS => ?_)
    cases h
    exact x_retM C0 rfl hP hD hS dL_does_152
  have h := xf c44 h
  by_cases c49 : (a1 &&& (15 : Int32)) = (6 : Int32)
  · have h := xt c49 h
    refine lv_tableIn (tgt := 153) hx hb dL_does_43 (by rw [c49]; decide) (by rw [c49]; decide) (off := 110) (by rw [c49]; rfl) (by decide) ?_
    refine lv_iload hx hb dL_does_153 (lv_at hl 0 rfl) ?_
    refine lv_if_ne (tgt := 162) hx hb dL_does_155 (by decide) (fun c50 => ?_) (fun c50 => ?_)
    · have h := xf c50 h
      refine lv_aload_n hx hb dL_does_162 rfl (lv_at hl 4 rfl) ?_
      refine lv_iload_n hx hb dL_does_163 rfl (lv_at hl 5 rfl) ?_
      refine lv_iconst (v := 4) hx hb dL_does_164 (by decide) ?_
      refine lv_ishr hx hb dL_does_165 ?_
      refine lv_iload hx hb dL_does_166 (lv_at hl 0 rfl) ?_
      obtain ⟨x51, h52, h⟩ := bE h
      refine x_RS (As := [.int (a1 >>> ((4 : Int32) &&& 31)), .int x8]) (rest := [.ref w]) hF (c_L_low l D cI cZ cT  (a1 >>> ((4 : Int32) &&& 31)) x8 x51 h52) (va_cwS 2 hts (gqS mw_307 mw_308 mw_309 mw_301) rfl rfl rfl hd_L_low.2 ⟨Nat.le_of_ble_eq_true rfl, Nat.le_of_ble_eq_true rfl⟩) hK hP q_T_bl (fun _ _ _ => (trivial : True)) [] rfl rfl hl.1 rfl (Nat.le_of_ble_eq_true rfl) dL_does_168 ⟨Nat.zero_le _, Nat.zero_le _⟩ ?_
      refine lv_iload_n hx hb dL_does_171 rfl (lv_at hl 5 rfl) ?_
      refine lv_bipush (v := 8) hx hb dL_does_172 (by decide) ?_
      refine lv_ishr hx hb dL_does_174 ?_
      refine lv_iconst (v := 5) hx hb dL_does_175 (by decide) ?_
      obtain ⟨x53, h54, h⟩ := bE h
      refine x_RS (As := [.int (a1 >>> ((8 : Int32) &&& 31)), .int (5 : Int32)]) (rest := [.int x51, .ref w]) hF (c_L_low l D cI cZ cT  (a1 >>> ((8 : Int32) &&& 31)) (5 : Int32) x53 h54) (va_cwS 2 hts (gqS mw_307 mw_308 mw_309 mw_301) rfl rfl rfl hd_L_low.2 ⟨Nat.le_of_ble_eq_true rfl, Nat.le_of_ble_eq_true rfl⟩) hK hP q_T_bl (fun _ _ _ => (trivial : True)) [] rfl rfl hl.1 rfl (Nat.le_of_ble_eq_true rfl) dL_does_176 ⟨Nat.zero_le _, Nat.zero_le _⟩ ?_
      obtain ⟨x55, h56, h⟩ := bE h
      refine x_MVp (As := [.int x51, .int x53]) (rest := []) (wr := []) (W1 := (wX w o hs pd sl) ++ (wT cI o a x55.2.1) ++ (wH cI cT hs hst ta ca x55.2.2) ++ (wPd cI pd sg nm pp)) hF (c_X3_settle l D cI cZ cT G _ w sl o a t hs hst ta ca hh pd sg nm pp x51 x53 x55 h56) (cwV 2 hts (gqV mw_321 mw_322 mw_323 mw_51 mw_248) rfl rfl rfl hd_X3_settle ⟨Nat.le_of_ble_eq_true rfl, Nat.le_of_ble_eq_true rfl⟩) hK hP hD hS hA q_E_bl (q_E_go hE hS (q_freep (p4_A (wX w o hs pd sl) (wT cI o a t) (wH cI cT hs hst ta ca hh) (wPd cI pd sg nm pp)) hD hS hA)) (p4_A (wX w o hs pd sl) (wT cI o a t) (wH cI cT hs hst ta ca hh) (wPd cI pd sg nm pp)) (p4_A (wX w o hs pd sl) (wT cI o a x55.2.1) (wH cI cT hs hst ta ca x55.2.2) (wPd cI pd sg nm pp)).symm rfl rfl rfl hl.1 rfl (Nat.le_of_ble_eq_true rfl) dL_does_179 ⟨Nat.zero_le _, Nat.zero_le _⟩ (fun H locs hP hD hS => ?_)
      obtain ⟨x57, h58, h⟩ := bE h
      refine x_RS (As := [.int x55.1]) (rest := []) hF (c_L_mild l D cI cZ cT  x55.1 x57 h58) (va_cwS 1 hts (gqS mw_313 mw_314 mw_309 mw_303) rfl rfl rfl hd_L_mild.2 ⟨Nat.le_of_ble_eq_true rfl, Nat.le_of_ble_eq_true rfl⟩) hK hP q_T_bl (fun _ _ _ => (trivial : True)) [] rfl rfl hl.1 rfl (Nat.le_of_ble_eq_true rfl) dL_does_182 ⟨Nat.zero_le _, Nat.zero_le _⟩ ?_
      cases h
      exact x_retM C0 rfl hP hD hS dL_does_185
    · have h := xt c50 h
      refine lv_iconst (v := 0) hx hb dL_does_158 (by decide) ?_
      refine lv_goto (tgt := 185) hx hb dL_does_159 (by decide) ?_
      cases h
      exact x_retM C0 rfl hP hD hS dL_does_185
  have h := xf c49 h
  by_cases c59 : (a1 &&& (15 : Int32)) = (7 : Int32)
  · have h := xt c59 h
    refine lv_tableIn (tgt := 153) hx hb dL_does_43 (by rw [c59]; decide) (by rw [c59]; decide) (off := 110) (by rw [c59]; rfl) (by decide) ?_
    refine lv_iload hx hb dL_does_153 (lv_at hl 0 rfl) ?_
    refine lv_if_ne (tgt := 162) hx hb dL_does_155 (by decide) (fun c60 => ?_) (fun c60 => ?_)
    · have h := xf c60 h
      refine lv_aload_n hx hb dL_does_162 rfl (lv_at hl 4 rfl) ?_
      refine lv_iload_n hx hb dL_does_163 rfl (lv_at hl 5 rfl) ?_
      refine lv_iconst (v := 4) hx hb dL_does_164 (by decide) ?_
      refine lv_ishr hx hb dL_does_165 ?_
      refine lv_iload hx hb dL_does_166 (lv_at hl 0 rfl) ?_
      obtain ⟨x61, h62, h⟩ := bE h
      refine x_RS (As := [.int (a1 >>> ((4 : Int32) &&& 31)), .int x8]) (rest := [.ref w]) hF (c_L_low l D cI cZ cT  (a1 >>> ((4 : Int32) &&& 31)) x8 x61 h62) (va_cwS 2 hts (gqS mw_307 mw_308 mw_309 mw_301) rfl rfl rfl hd_L_low.2 ⟨Nat.le_of_ble_eq_true rfl, Nat.le_of_ble_eq_true rfl⟩) hK hP q_T_bl (fun _ _ _ => (trivial : True)) [] rfl rfl hl.1 rfl (Nat.le_of_ble_eq_true rfl) dL_does_168 ⟨Nat.zero_le _, Nat.zero_le _⟩ ?_
      refine lv_iload_n hx hb dL_does_171 rfl (lv_at hl 5 rfl) ?_
      refine lv_bipush (v := 8) hx hb dL_does_172 (by decide) ?_
      refine lv_ishr hx hb dL_does_174 ?_
      refine lv_iconst (v := 5) hx hb dL_does_175 (by decide) ?_
      obtain ⟨x63, h64, h⟩ := bE h
      refine x_RS (As := [.int (a1 >>> ((8 : Int32) &&& 31)), .int (5 : Int32)]) (rest := [.int x61, .ref w]) hF (c_L_low l D cI cZ cT  (a1 >>> ((8 : Int32) &&& 31)) (5 : Int32) x63 h64) (va_cwS 2 hts (gqS mw_307 mw_308 mw_309 mw_301) rfl rfl rfl hd_L_low.2 ⟨Nat.le_of_ble_eq_true rfl, Nat.le_of_ble_eq_true rfl⟩) hK hP q_T_bl (fun _ _ _ => (trivial : True)) [] rfl rfl hl.1 rfl (Nat.le_of_ble_eq_true rfl) dL_does_176 ⟨Nat.zero_le _, Nat.zero_le _⟩ ?_
      obtain ⟨x65, h66, h⟩ := bE h
      refine x_MVp (As := [.int x61, .int x63]) (rest := []) (wr := []) (W1 := (wX w o hs pd sl) ++ (wT cI o a x65.2.1) ++ (wH cI cT hs hst ta ca x65.2.2) ++ (wPd cI pd sg nm pp)) hF (c_X3_settle l D cI cZ cT G _ w sl o a t hs hst ta ca hh pd sg nm pp x61 x63 x65 h66) (cwV 2 hts (gqV mw_321 mw_322 mw_323 mw_51 mw_248) rfl rfl rfl hd_X3_settle ⟨Nat.le_of_ble_eq_true rfl, Nat.le_of_ble_eq_true rfl⟩) hK hP hD hS hA q_E_bl (q_E_go hE hS (q_freep (p4_A (wX w o hs pd sl) (wT cI o a t) (wH cI cT hs hst ta ca hh) (wPd cI pd sg nm pp)) hD hS hA)) (p4_A (wX w o hs pd sl) (wT cI o a t) (wH cI cT hs hst ta ca hh) (wPd cI pd sg nm pp)) (p4_A (wX w o hs pd sl) (wT cI o a x65.2.1) (wH cI cT hs hst ta ca x65.2.2) (wPd cI pd sg nm pp)).symm rfl rfl rfl hl.1 rfl (Nat.le_of_ble_eq_true rfl) dL_does_179 ⟨Nat.zero_le _, Nat.zero_le _⟩ (fun H locs hP hD hS => ?_)
      obtain ⟨x67, h68, h⟩ := bE h
      refine x_RS (As := [.int x65.1]) (rest := []) hF (c_L_mild l D cI cZ cT  x65.1 x67 h68) (va_cwS 1 hts (gqS mw_313 mw_314 mw_309 mw_303) rfl rfl rfl hd_L_mild.2 ⟨Nat.le_of_ble_eq_true rfl, Nat.le_of_ble_eq_true rfl⟩) hK hP q_T_bl (fun _ _ _ => (trivial : True)) [] rfl rfl hl.1 rfl (Nat.le_of_ble_eq_true rfl) dL_does_182 ⟨Nat.zero_le _, Nat.zero_le _⟩ ?_
      cases h
      exact x_retM C0 rfl hP hD hS dL_does_185
    · have h := xt c60 h
      refine lv_iconst (v := 0) hx hb dL_does_158 (by decide) ?_
      refine lv_goto (tgt := 185) hx hb dL_does_159 (by decide) ?_
      cases h
      exact x_retM C0 rfl hP hD hS dL_does_185
  have h := xf c59 h
  by_cases c69 : (a1 &&& (15 : Int32)) = (8 : Int32)
  · have h := xt c69 h
    refine lv_tableIn (tgt := 186) hx hb dL_does_43 (by rw [c69]; decide) (by rw [c69]; decide) (off := 143) (by rw [c69]; rfl) (by decide) ?_
    refine lv_iload hx hb dL_does_186 (lv_at hl 0 rfl) ?_
    refine lv_if_ne (tgt := 195) hx hb dL_does_188 (by decide) (fun c70 => ?_) (fun c70 => ?_)
    · have h := xf c70 h
      refine lv_aload_n hx hb dL_does_195 rfl (lv_at hl 4 rfl) ?_
      refine lv_iload_n hx hb dL_does_196 rfl (lv_at hl 5 rfl) ?_
      refine lv_iconst (v := 4) hx hb dL_does_197 (by decide) ?_
      refine lv_ishr hx hb dL_does_198 ?_
      refine lv_iload hx hb dL_does_199 (lv_at hl 0 rfl) ?_
      obtain ⟨x71, h72, h⟩ := bE h
      refine x_RS (As := [.int (a1 >>> ((4 : Int32) &&& 31)), .int x8]) (rest := [.ref w]) hF (c_L_low l D cI cZ cT  (a1 >>> ((4 : Int32) &&& 31)) x8 x71 h72) (va_cwS 2 hts (gqS mw_307 mw_308 mw_309 mw_301) rfl rfl rfl hd_L_low.2 ⟨Nat.le_of_ble_eq_true rfl, Nat.le_of_ble_eq_true rfl⟩) hK hP q_T_bl (fun _ _ _ => (trivial : True)) [] rfl rfl hl.1 rfl (Nat.le_of_ble_eq_true rfl) dL_does_201 ⟨Nat.zero_le _, Nat.zero_le _⟩ ?_
      obtain ⟨x73, h74, h⟩ := bE h
      refine x_MVp (As := [.int x71]) (rest := []) (wr := []) (W1 := (wX w o hs pd sl) ++ (wT cI o a x73.2.1) ++ (wH cI cT hs hst ta ca x73.2.2) ++ (wPd cI pd sg nm pp)) hF (c_X3_fight l D cI cZ cT G _ w sl o a t hs hst ta ca hh pd sg nm pp x71 x73 h74) (cwV 1 hts (gqV mw_324 mw_325 mw_326 mw_51 mw_251) rfl rfl rfl hd_X3_fight ⟨Nat.le_of_ble_eq_true rfl, Nat.le_of_ble_eq_true rfl⟩) hK hP hD hS hA q_E_bl (q_E_go hE hS (q_freep (p4_A (wX w o hs pd sl) (wT cI o a t) (wH cI cT hs hst ta ca hh) (wPd cI pd sg nm pp)) hD hS hA)) (p4_A (wX w o hs pd sl) (wT cI o a t) (wH cI cT hs hst ta ca hh) (wPd cI pd sg nm pp)) (p4_A (wX w o hs pd sl) (wT cI o a x73.2.1) (wH cI cT hs hst ta ca x73.2.2) (wPd cI pd sg nm pp)).symm rfl rfl rfl hl.1 rfl (Nat.le_of_ble_eq_true rfl) dL_does_204 ⟨Nat.zero_le _, Nat.zero_le _⟩ (fun H locs hP hD hS => ?_)
      obtain ⟨x75, h76, h⟩ := bE h
      refine x_RS (As := [.int x73.1]) (rest := []) hF (c_L_mild l D cI cZ cT  x73.1 x75 h76) (va_cwS 1 hts (gqS mw_313 mw_314 mw_309 mw_303) rfl rfl rfl hd_L_mild.2 ⟨Nat.le_of_ble_eq_true rfl, Nat.le_of_ble_eq_true rfl⟩) hK hP q_T_bl (fun _ _ _ => (trivial : True)) [] rfl rfl hl.1 rfl (Nat.le_of_ble_eq_true rfl) dL_does_207 ⟨Nat.zero_le _, Nat.zero_le _⟩ ?_
      cases h
      exact x_retM C0 rfl hP hD hS dL_does_210
    · have h := xt c70 h
      refine lv_iconst (v := 0) hx hb dL_does_191 (by decide) ?_
      refine lv_goto (tgt := 210) hx hb dL_does_192 (by decide) ?_
      cases h
      exact x_retM C0 rfl hP hD hS dL_does_210
  have h := xf c69 h
  by_cases c77 : (a1 &&& (15 : Int32)) = (9 : Int32)
  · have h := xt c77 h
    refine lv_tableIn (tgt := 186) hx hb dL_does_43 (by rw [c77]; decide) (by rw [c77]; decide) (off := 143) (by rw [c77]; rfl) (by decide) ?_
    refine lv_iload hx hb dL_does_186 (lv_at hl 0 rfl) ?_
    refine lv_if_ne (tgt := 195) hx hb dL_does_188 (by decide) (fun c78 => ?_) (fun c78 => ?_)
    · have h := xf c78 h
      refine lv_aload_n hx hb dL_does_195 rfl (lv_at hl 4 rfl) ?_
      refine lv_iload_n hx hb dL_does_196 rfl (lv_at hl 5 rfl) ?_
      refine lv_iconst (v := 4) hx hb dL_does_197 (by decide) ?_
      refine lv_ishr hx hb dL_does_198 ?_
      refine lv_iload hx hb dL_does_199 (lv_at hl 0 rfl) ?_
      obtain ⟨x79, h80, h⟩ := bE h
      refine x_RS (As := [.int (a1 >>> ((4 : Int32) &&& 31)), .int x8]) (rest := [.ref w]) hF (c_L_low l D cI cZ cT  (a1 >>> ((4 : Int32) &&& 31)) x8 x79 h80) (va_cwS 2 hts (gqS mw_307 mw_308 mw_309 mw_301) rfl rfl rfl hd_L_low.2 ⟨Nat.le_of_ble_eq_true rfl, Nat.le_of_ble_eq_true rfl⟩) hK hP q_T_bl (fun _ _ _ => (trivial : True)) [] rfl rfl hl.1 rfl (Nat.le_of_ble_eq_true rfl) dL_does_201 ⟨Nat.zero_le _, Nat.zero_le _⟩ ?_
      obtain ⟨x81, h82, h⟩ := bE h
      refine x_MVp (As := [.int x79]) (rest := []) (wr := []) (W1 := (wX w o hs pd sl) ++ (wT cI o a x81.2.1) ++ (wH cI cT hs hst ta ca x81.2.2) ++ (wPd cI pd sg nm pp)) hF (c_X3_fight l D cI cZ cT G _ w sl o a t hs hst ta ca hh pd sg nm pp x79 x81 h82) (cwV 1 hts (gqV mw_324 mw_325 mw_326 mw_51 mw_251) rfl rfl rfl hd_X3_fight ⟨Nat.le_of_ble_eq_true rfl, Nat.le_of_ble_eq_true rfl⟩) hK hP hD hS hA q_E_bl (q_E_go hE hS (q_freep (p4_A (wX w o hs pd sl) (wT cI o a t) (wH cI cT hs hst ta ca hh) (wPd cI pd sg nm pp)) hD hS hA)) (p4_A (wX w o hs pd sl) (wT cI o a t) (wH cI cT hs hst ta ca hh) (wPd cI pd sg nm pp)) (p4_A (wX w o hs pd sl) (wT cI o a x81.2.1) (wH cI cT hs hst ta ca x81.2.2) (wPd cI pd sg nm pp)).symm rfl rfl rfl hl.1 rfl (Nat.le_of_ble_eq_true rfl) dL_does_204 ⟨Nat.zero_le _, Nat.zero_le _⟩ (fun H locs hP hD hS => ?_)
      obtain ⟨x83, h84, h⟩ := bE h
      refine x_RS (As := [.int x81.1]) (rest := []) hF (c_L_mild l D cI cZ cT  x81.1 x83 h84) (va_cwS 1 hts (gqS mw_313 mw_314 mw_309 mw_303) rfl rfl rfl hd_L_mild.2 ⟨Nat.le_of_ble_eq_true rfl, Nat.le_of_ble_eq_true rfl⟩) hK hP q_T_bl (fun _ _ _ => (trivial : True)) [] rfl rfl hl.1 rfl (Nat.le_of_ble_eq_true rfl) dL_does_207 ⟨Nat.zero_le _, Nat.zero_le _⟩ ?_
      cases h
      exact x_retM C0 rfl hP hD hS dL_does_210
    · have h := xt c78 h
      refine lv_iconst (v := 0) hx hb dL_does_191 (by decide) ?_
      refine lv_goto (tgt := 210) hx hb dL_does_192 (by decide) ?_
      cases h
      exact x_retM C0 rfl hP hD hS dL_does_210
  have h := xf c77 h
  by_cases c85 : (a1 &&& (15 : Int32)) = (10 : Int32)
  · have h := xt c85 h
    refine lv_tableIn (tgt := 211) hx hb dL_does_43 (by rw [c85]; decide) (by rw [c85]; decide) (off := 168) (by rw [c85]; rfl) (by decide) ?_
    refine lv_aload_n hx hb dL_does_211 rfl (lv_at hl 4 rfl) ?_
    refine lv_iload_n hx hb dL_does_212 rfl (lv_at hl 2 rfl) ?_
    obtain ⟨x86, h87, h⟩ := bE h
    refine x_MVp (As := [.int x3]) (rest := []) (wr := []) (W1 := (wX w o hs pd sl) ++ (wT cI o a x86.2.1) ++ (wH cI cT hs hst ta ca x86.2.2) ++ (wPd cI pd sg nm pp)) hF (c_X3_swear l D cI cZ cT G _ w sl o a t hs hst ta ca hh pd sg nm pp x3 x86 h87) (cwV 1 hts (gqV mw_327 mw_328 mw_329 mw_51 mw_254) rfl rfl rfl hd_X3_swear ⟨Nat.le_of_ble_eq_true rfl, Nat.le_of_ble_eq_true rfl⟩) hK hP hD hS hA q_E_bl (q_E_go hE hS (q_freep (p4_A (wX w o hs pd sl) (wT cI o a t) (wH cI cT hs hst ta ca hh) (wPd cI pd sg nm pp)) hD hS hA)) (p4_A (wX w o hs pd sl) (wT cI o a t) (wH cI cT hs hst ta ca hh) (wPd cI pd sg nm pp)) (p4_A (wX w o hs pd sl) (wT cI o a x86.2.1) (wH cI cT hs hst ta ca x86.2.2) (wPd cI pd sg nm pp)).symm rfl rfl rfl hl.1 rfl (Nat.le_of_ble_eq_true rfl) dL_does_213 ⟨Nat.zero_le _, Nat.zero_le _⟩ (fun H locs hP hD hS => ?_)
    obtain ⟨x88, h89, h⟩ := bE h
    refine x_RS (As := [.int x86.1]) (rest := []) hF (c_L_mild l D cI cZ cT  x86.1 x88 h89) (va_cwS 1 hts (gqS mw_313 mw_314 mw_309 mw_303) rfl rfl rfl hd_L_mild.2 ⟨Nat.le_of_ble_eq_true rfl, Nat.le_of_ble_eq_true rfl⟩) hK hP q_T_bl (fun _ _ _ => (trivial : True)) [] rfl rfl hl.1 rfl (Nat.le_of_ble_eq_true rfl) dL_does_216 ⟨Nat.zero_le _, Nat.zero_le _⟩ ?_
    cases h
    exact x_retM C0 rfl hP hD hS dL_does_219
  have h := xf c85 h
  by_cases c90 : (a1 &&& (15 : Int32)) = (11 : Int32)
  · have h := xt c90 h
    refine lv_tableIn (tgt := 220) hx hb dL_does_43 (by rw [c90]; decide) (by rw [c90]; decide) (off := 177) (by rw [c90]; rfl) (by decide) ?_
    refine lv_aload_n hx hb dL_does_220 rfl (lv_at hl 4 rfl) ?_
    refine lv_iload_n hx hb dL_does_221 rfl (lv_at hl 5 rfl) ?_
    refine lv_iconst (v := 4) hx hb dL_does_222 (by decide) ?_
    refine lv_ishr hx hb dL_does_223 ?_
    refine lv_bipush (v := 10) hx hb dL_does_224 (by decide) ?_
    obtain ⟨x91, h92, h⟩ := bE h
    refine x_RS (As := [.int (a1 >>> ((4 : Int32) &&& 31)), .int (10 : Int32)]) (rest := [.ref w]) hF (c_L_low l D cI cZ cT  (a1 >>> ((4 : Int32) &&& 31)) (10 : Int32) x91 h92) (va_cwS 2 hts (gqS mw_307 mw_308 mw_309 mw_301) rfl rfl rfl hd_L_low.2 ⟨Nat.le_of_ble_eq_true rfl, Nat.le_of_ble_eq_true rfl⟩) hK hP q_T_bl (fun _ _ _ => (trivial : True)) [] rfl rfl hl.1 rfl (Nat.le_of_ble_eq_true rfl) dL_does_226 ⟨Nat.zero_le _, Nat.zero_le _⟩ ?_
    refine lv_iload_n hx hb dL_does_229 rfl (lv_at hl 5 rfl) ?_
    refine lv_bipush (v := 7) hx hb dL_does_230 (by decide) ?_
    refine lv_ishr hx hb dL_does_232 ?_
    refine lv_bipush (v := 10) hx hb dL_does_233 (by decide) ?_
    obtain ⟨x93, h94, h⟩ := bE h
    refine x_RS (As := [.int (a1 >>> ((7 : Int32) &&& 31)), .int (10 : Int32)]) (rest := [.int x91, .ref w]) hF (c_L_low l D cI cZ cT  (a1 >>> ((7 : Int32) &&& 31)) (10 : Int32) x93 h94) (va_cwS 2 hts (gqS mw_307 mw_308 mw_309 mw_301) rfl rfl rfl hd_L_low.2 ⟨Nat.le_of_ble_eq_true rfl, Nat.le_of_ble_eq_true rfl⟩) hK hP q_T_bl (fun _ _ _ => (trivial : True)) [] rfl rfl hl.1 rfl (Nat.le_of_ble_eq_true rfl) dL_does_235 ⟨Nat.zero_le _, Nat.zero_le _⟩ ?_
    obtain ⟨x95, h96, h⟩ := bE h
    refine x_MVp (As := [.int x91, .int x93]) (rest := []) (wr := []) (W1 := (wX w o hs pd sl) ++ (wT cI o a x95.2.1) ++ (wH cI cT hs hst ta ca x95.2.2) ++ (wPd cI pd sg nm pp)) hF (c_X3_person l D cI cZ cT G _ w sl o a t hs hst ta ca hh pd sg nm pp x91 x93 x95 h96) (cwV 2 hts (gqV mw_330 mw_331 mw_332 mw_51 mw_236) rfl rfl rfl hd_X3_person ⟨Nat.le_of_ble_eq_true rfl, Nat.le_of_ble_eq_true rfl⟩) hK hP hD hS hA q_E_bl (q_E_go hE hS (q_freep (p4_A (wX w o hs pd sl) (wT cI o a t) (wH cI cT hs hst ta ca hh) (wPd cI pd sg nm pp)) hD hS hA)) (p4_A (wX w o hs pd sl) (wT cI o a t) (wH cI cT hs hst ta ca hh) (wPd cI pd sg nm pp)) (p4_A (wX w o hs pd sl) (wT cI o a x95.2.1) (wH cI cT hs hst ta ca x95.2.2) (wPd cI pd sg nm pp)).symm rfl rfl rfl hl.1 rfl (Nat.le_of_ble_eq_true rfl) dL_does_238 ⟨Nat.zero_le _, Nat.zero_le _⟩ (fun H locs hP hD hS => ?_)
    obtain ⟨x97, h98, h⟩ := bE h
    refine x_RS (As := [.int x95.1]) (rest := []) hF (c_L_mild l D cI cZ cT  x95.1 x97 h98) (va_cwS 1 hts (gqS mw_313 mw_314 mw_309 mw_303) rfl rfl rfl hd_L_mild.2 ⟨Nat.le_of_ble_eq_true rfl, Nat.le_of_ble_eq_true rfl⟩) hK hP q_T_bl (fun _ _ _ => (trivial : True)) [] rfl rfl hl.1 rfl (Nat.le_of_ble_eq_true rfl) dL_does_241 ⟨Nat.zero_le _, Nat.zero_le _⟩ ?_
    cases h
    exact x_retM C0 rfl hP hD hS dL_does_244
  have h := xf c90 h
  by_cases c99 : (a1 &&& (15 : Int32)) = (12 : Int32)
  · have h := xt c99 h
    refine lv_tableIn (tgt := 245) hx hb dL_does_43 (by rw [c99]; decide) (by rw [c99]; decide) (off := 202) (by rw [c99]; rfl) (by decide) ?_
    refine lv_iload_n hx hb dL_does_245 rfl (lv_at hl 5 rfl) ?_
    refine lv_iconst (v := 4) hx hb dL_does_246 (by decide) ?_
    refine lv_ishr hx hb dL_does_247 ?_
    refine lv_iconst (v := 4) hx hb dL_does_248 (by decide) ?_
    obtain ⟨x100, h101, h⟩ := bE h
    refine x_RS (As := [.int (a1 >>> ((4 : Int32) &&& 31)), .int (4 : Int32)]) (rest := []) hF (c_L_low l D cI cZ cT  (a1 >>> ((4 : Int32) &&& 31)) (4 : Int32) x100 h101) (va_cwS 2 hts (gqS mw_307 mw_308 mw_309 mw_301) rfl rfl rfl hd_L_low.2 ⟨Nat.le_of_ble_eq_true rfl, Nat.le_of_ble_eq_true rfl⟩) hK hP q_T_bl (fun _ _ _ => (trivial : True)) [] rfl rfl hl.1 rfl (Nat.le_of_ble_eq_true rfl) dL_does_249 ⟨Nat.zero_le _, Nat.zero_le _⟩ ?_
    refine lv_istore (lv' := [(6, .int x100), (5, .int x8), (4, .int (((x3 + (1 : Int32)) + x5) - ((x3 + (1 : Int32)) + x5) / x1 * x1)), (3, .int x3), (2, .int x1), (0, .ref w), (1, .int a1)]) hx hb dL_does_252 hl (by decide) rfl (fun ls hl => ?_)
    refine lv_aload_n hx hb dL_does_254 rfl (lv_at hl 5 rfl) ?_
    refine lv_iload hx hb dL_does_255 (lv_at hl 0 rfl) ?_
    refine lv_iload hx hb dL_does_257 (lv_at hl 0 rfl) ?_
    refine lv_if_ne (tgt := 276) hx hb dL_does_259 (by decide) (fun c102 => ?_) (fun c102 => ?_)
    · have h := xf c102 h
      refine lv_iload hx hb dL_does_276 (lv_at hl 0 rfl) ?_
      refine lv_iconst (v := 1) hx hb dL_does_278 (by decide) ?_
      refine lv_icmp_ne (tgt := 294) hx hb dL_does_279 (by decide) (fun c103 => ?_) (fun c103 => ?_)
      · have h := xf c103 h
        refine lv_iload hx hb dL_does_294 (lv_at hl 0 rfl) ?_
        refine lv_iconst (v := 2) hx hb dL_does_296 (by decide) ?_
        refine lv_icmp_ne (tgt := 314) hx hb dL_does_297 (by decide) (fun c104 => ?_) (fun c104 => ?_)
        · have h := xf c104 h
          refine lv_iload_n hx hb dL_does_314 rfl (lv_at hl 6 rfl) ?_
          refine lv_bipush (v := 6) hx hb dL_does_315 (by decide) ?_
          refine lv_ishr hx hb dL_does_317 ?_
          refine lv_sipush (v := 200) hx hb dL_does_318 (by decide) ?_
          obtain ⟨x105, h106, h⟩ := bE h
          refine x_RS (As := [.int (a1 >>> ((6 : Int32) &&& 31)), .int (200 : Int32)]) (rest := [.int x100, .ref w]) hF (c_L_low l D cI cZ cT  (a1 >>> ((6 : Int32) &&& 31)) (200 : Int32) x105 h106) (va_cwS 2 hts (gqS mw_307 mw_308 mw_309 mw_301) rfl rfl rfl hd_L_low.2 ⟨Nat.le_of_ble_eq_true rfl, Nat.le_of_ble_eq_true rfl⟩) hK hP q_T_bl (fun _ _ _ => (trivial : True)) [] rfl rfl hl.1 rfl (Nat.le_of_ble_eq_true rfl) dL_does_321 ⟨Nat.zero_le _, Nat.zero_le _⟩ ?_
          obtain ⟨x107, h108, h⟩ := bE h
          refine x_MVp (As := [.int x100, .int x105]) (rest := []) (wr := []) (W1 := (wX w o hs pd sl) ++ (wT cI o a x107.2.1) ++ (wH cI cT hs hst ta ca x107.2.2) ++ (wPd cI pd sg nm pp)) hF (c_X3_set l D cI cZ cT G _ w sl o a t hs hst ta ca hh pd sg nm pp x100 x105 x107 h108) (cwV 2 hts (gqV mw_333 mw_334 mw_335 mw_51 mw_233) rfl rfl rfl hd_X3_set ⟨Nat.le_of_ble_eq_true rfl, Nat.le_of_ble_eq_true rfl⟩) hK hP hD hS hA q_E_bl (q_E_go hE hS (q_freep (p4_A (wX w o hs pd sl) (wT cI o a t) (wH cI cT hs hst ta ca hh) (wPd cI pd sg nm pp)) hD hS hA)) (p4_A (wX w o hs pd sl) (wT cI o a t) (wH cI cT hs hst ta ca hh) (wPd cI pd sg nm pp)) (p4_A (wX w o hs pd sl) (wT cI o a x107.2.1) (wH cI cT hs hst ta ca x107.2.2) (wPd cI pd sg nm pp)).symm rfl rfl rfl hl.1 rfl (Nat.le_of_ble_eq_true rfl) dL_does_324 ⟨Nat.zero_le _, Nat.zero_le _⟩ (fun H locs hP hD hS => ?_)
          cases h
          exact x_retM C0 rfl hP hD hS dL_does_327
        · have h := xt c104 h
          refine lv_iconst (v := 1) hx hb dL_does_300 (by decide) ?_
          refine lv_iload_n hx hb dL_does_301 rfl (lv_at hl 6 rfl) ?_
          refine lv_bipush (v := 6) hx hb dL_does_302 (by decide) ?_
          refine lv_ishr hx hb dL_does_304 ?_
          refine lv_bipush (v := 60) hx hb dL_does_305 (by decide) ?_
          obtain ⟨x109, h110, h⟩ := bE h
          refine x_RS (As := [.int (a1 >>> ((6 : Int32) &&& 31)), .int (60 : Int32)]) (rest := [.int (1 : Int32), .int x100, .ref w]) hF (c_L_low l D cI cZ cT  (a1 >>> ((6 : Int32) &&& 31)) (60 : Int32) x109 h110) (va_cwS 2 hts (gqS mw_307 mw_308 mw_309 mw_301) rfl rfl rfl hd_L_low.2 ⟨Nat.le_of_ble_eq_true rfl, Nat.le_of_ble_eq_true rfl⟩) hK hP q_T_bl (fun _ _ _ => (trivial : True)) [] rfl rfl hl.1 rfl (Nat.le_of_ble_eq_true rfl) dL_does_307 ⟨Nat.zero_le _, Nat.zero_le _⟩ ?_
          refine lv_iadd hx hb dL_does_310 ?_
          refine lv_goto (tgt := 324) hx hb dL_does_311 (by decide) ?_
          obtain ⟨x111, h112, h⟩ := bE h
          refine x_MVp (As := [.int x100, .int ((1 : Int32) + x109)]) (rest := []) (wr := []) (W1 := (wX w o hs pd sl) ++ (wT cI o a x111.2.1) ++ (wH cI cT hs hst ta ca x111.2.2) ++ (wPd cI pd sg nm pp)) hF (c_X3_set l D cI cZ cT G _ w sl o a t hs hst ta ca hh pd sg nm pp x100 ((1 : Int32) + x109) x111 h112) (cwV 2 hts (gqV mw_333 mw_334 mw_335 mw_51 mw_233) rfl rfl rfl hd_X3_set ⟨Nat.le_of_ble_eq_true rfl, Nat.le_of_ble_eq_true rfl⟩) hK hP hD hS hA q_E_bl (q_E_go hE hS (q_freep (p4_A (wX w o hs pd sl) (wT cI o a t) (wH cI cT hs hst ta ca hh) (wPd cI pd sg nm pp)) hD hS hA)) (p4_A (wX w o hs pd sl) (wT cI o a t) (wH cI cT hs hst ta ca hh) (wPd cI pd sg nm pp)) (p4_A (wX w o hs pd sl) (wT cI o a x111.2.1) (wH cI cT hs hst ta ca x111.2.2) (wPd cI pd sg nm pp)).symm rfl rfl rfl hl.1 rfl (Nat.le_of_ble_eq_true rfl) dL_does_324 ⟨Nat.zero_le _, Nat.zero_le _⟩ (fun H locs hP hD hS => ?_)
          cases h
          exact x_retM C0 rfl hP hD hS dL_does_327
      · have h := xt c103 h
        refine lv_iload_n hx hb dL_does_282 rfl (lv_at hl 6 rfl) ?_
        refine lv_bipush (v := 6) hx hb dL_does_283 (by decide) ?_
        refine lv_ishr hx hb dL_does_285 ?_
        refine lv_bipush (v := 40) hx hb dL_does_286 (by decide) ?_
        obtain ⟨x113, h114, h⟩ := bE h
        refine x_RS (As := [.int (a1 >>> ((6 : Int32) &&& 31)), .int (40 : Int32)]) (rest := [.int x100, .ref w]) hF (c_L_low l D cI cZ cT  (a1 >>> ((6 : Int32) &&& 31)) (40 : Int32) x113 h114) (va_cwS 2 hts (gqS mw_307 mw_308 mw_309 mw_301) rfl rfl rfl hd_L_low.2 ⟨Nat.le_of_ble_eq_true rfl, Nat.le_of_ble_eq_true rfl⟩) hK hP q_T_bl (fun _ _ _ => (trivial : True)) [] rfl rfl hl.1 rfl (Nat.le_of_ble_eq_true rfl) dL_does_288 ⟨Nat.zero_le _, Nat.zero_le _⟩ ?_
        refine lv_goto (tgt := 324) hx hb dL_does_291 (by decide) ?_
        obtain ⟨x115, h116, h⟩ := bE h
        refine x_MVp (As := [.int x100, .int x113]) (rest := []) (wr := []) (W1 := (wX w o hs pd sl) ++ (wT cI o a x115.2.1) ++ (wH cI cT hs hst ta ca x115.2.2) ++ (wPd cI pd sg nm pp)) hF (c_X3_set l D cI cZ cT G _ w sl o a t hs hst ta ca hh pd sg nm pp x100 x113 x115 h116) (cwV 2 hts (gqV mw_333 mw_334 mw_335 mw_51 mw_233) rfl rfl rfl hd_X3_set ⟨Nat.le_of_ble_eq_true rfl, Nat.le_of_ble_eq_true rfl⟩) hK hP hD hS hA q_E_bl (q_E_go hE hS (q_freep (p4_A (wX w o hs pd sl) (wT cI o a t) (wH cI cT hs hst ta ca hh) (wPd cI pd sg nm pp)) hD hS hA)) (p4_A (wX w o hs pd sl) (wT cI o a t) (wH cI cT hs hst ta ca hh) (wPd cI pd sg nm pp)) (p4_A (wX w o hs pd sl) (wT cI o a x115.2.1) (wH cI cT hs hst ta ca x115.2.2) (wPd cI pd sg nm pp)).symm rfl rfl rfl hl.1 rfl (Nat.le_of_ble_eq_true rfl) dL_does_324 ⟨Nat.zero_le _, Nat.zero_le _⟩ (fun H locs hP hD hS => ?_)
        cases h
        exact x_retM C0 rfl hP hD hS dL_does_327
    · have h := xt c102 h
      refine lv_iconst (v := 1) hx hb dL_does_262 (by decide) ?_
      refine lv_iload_n hx hb dL_does_263 rfl (lv_at hl 6 rfl) ?_
      refine lv_bipush (v := 6) hx hb dL_does_264 (by decide) ?_
      refine lv_ishr hx hb dL_does_266 ?_
      refine lv_bipush (v := 12) hx hb dL_does_267 (by decide) ?_
      obtain ⟨x117, h118, h⟩ := bE h
      refine x_RS (As := [.int (a1 >>> ((6 : Int32) &&& 31)), .int (12 : Int32)]) (rest := [.int (1 : Int32), .int x100, .ref w]) hF (c_L_low l D cI cZ cT  (a1 >>> ((6 : Int32) &&& 31)) (12 : Int32) x117 h118) (va_cwS 2 hts (gqS mw_307 mw_308 mw_309 mw_301) rfl rfl rfl hd_L_low.2 ⟨Nat.le_of_ble_eq_true rfl, Nat.le_of_ble_eq_true rfl⟩) hK hP q_T_bl (fun _ _ _ => (trivial : True)) [] rfl rfl hl.1 rfl (Nat.le_of_ble_eq_true rfl) dL_does_269 ⟨Nat.zero_le _, Nat.zero_le _⟩ ?_
      refine lv_iadd hx hb dL_does_272 ?_
      refine lv_goto (tgt := 324) hx hb dL_does_273 (by decide) ?_
      obtain ⟨x119, h120, h⟩ := bE h
      refine x_MVp (As := [.int x100, .int ((1 : Int32) + x117)]) (rest := []) (wr := []) (W1 := (wX w o hs pd sl) ++ (wT cI o a x119.2.1) ++ (wH cI cT hs hst ta ca x119.2.2) ++ (wPd cI pd sg nm pp)) hF (c_X3_set l D cI cZ cT G _ w sl o a t hs hst ta ca hh pd sg nm pp x100 ((1 : Int32) + x117) x119 h120) (cwV 2 hts (gqV mw_333 mw_334 mw_335 mw_51 mw_233) rfl rfl rfl hd_X3_set ⟨Nat.le_of_ble_eq_true rfl, Nat.le_of_ble_eq_true rfl⟩) hK hP hD hS hA q_E_bl (q_E_go hE hS (q_freep (p4_A (wX w o hs pd sl) (wT cI o a t) (wH cI cT hs hst ta ca hh) (wPd cI pd sg nm pp)) hD hS hA)) (p4_A (wX w o hs pd sl) (wT cI o a t) (wH cI cT hs hst ta ca hh) (wPd cI pd sg nm pp)) (p4_A (wX w o hs pd sl) (wT cI o a x119.2.1) (wH cI cT hs hst ta ca x119.2.2) (wPd cI pd sg nm pp)).symm rfl rfl rfl hl.1 rfl (Nat.le_of_ble_eq_true rfl) dL_does_324 ⟨Nat.zero_le _, Nat.zero_le _⟩ (fun H locs hP hD hS => ?_)
      cases h
      exact x_retM C0 rfl hP hD hS dL_does_327
  have h := xf c99 h
  refine lv_tableOut (tgt := 328) hx hb dL_does_43 (by have := lv_neT c11 (a := 0) rfl; have := lv_neT c18 (a := 1) rfl; have := lv_neT c25 (a := 2) rfl; have := lv_neT c32 (a := 3) rfl; have := lv_neT c39 (a := 4) rfl; have := lv_neT c44 (a := 5) rfl; have := lv_neT c49 (a := 6) rfl; have := lv_neT c59 (a := 7) rfl; have := lv_neT c69 (a := 8) rfl; have := lv_neT c77 (a := 9) rfl; have := lv_neT c85 (a := 10) rfl; have := lv_neT c90 (a := 11) rfl; have := lv_neT c99 (a := 12) rfl; omega) (by decide) ?_
  refine lv_aload_n hx hb dL_does_328 rfl (lv_at hl 4 rfl) ?_
  refine lv_iconst (v := 1) hx hb dL_does_329 (by decide) ?_
  refine lv_iload_n hx hb dL_does_330 rfl (lv_at hl 5 rfl) ?_
  refine lv_iconst (v := 4) hx hb dL_does_331 (by decide) ?_
  refine lv_ishr hx hb dL_does_332 ?_
  refine lv_iload_n hx hb dL_does_333 rfl (lv_at hl 5 rfl) ?_
  refine lv_bipush (v := 9) hx hb dL_does_334 (by decide) ?_
  refine lv_ishr hx hb dL_does_336 ?_
  refine lv_iconst (v := 1) hx hb dL_does_337 (by decide) ?_
  refine lv_iand hx hb dL_does_338 ?_
  refine x_j (V := Int32) (nL := 7) (fun v121 => []) 349 (fun v121 => [.int v121, .int (a1 >>> ((4 : Int32) &&& 31)), .int (1 : Int32), .ref w]) h (fun v121 h ls hl => ?_) (fun v121 h hj => ?_)
  · obtain ⟨x122, h123, h⟩ := bE h
    refine x_RS (As := [.int (a1 >>> ((4 : Int32) &&& 31)), .int v121]) (rest := [.int (1 : Int32), .ref w]) hF (c_L_low l D cI cZ cT  (a1 >>> ((4 : Int32) &&& 31)) v121 x122 h123) (va_cwS 2 hts (gqS mw_307 mw_308 mw_309 mw_301) rfl rfl rfl hd_L_low.2 ⟨Nat.le_of_ble_eq_true rfl, Nat.le_of_ble_eq_true rfl⟩) hK hP q_T_bl (fun _ _ _ => (trivial : True)) [] rfl rfl hl.1 rfl (Nat.le_of_ble_eq_true rfl) dL_does_349 ⟨Nat.zero_le _, Nat.zero_le _⟩ ?_
    refine lv_iadd hx hb dL_does_352 ?_
    obtain ⟨x124, h125, h⟩ := bE h
    refine x_MVp (As := [.int ((1 : Int32) + x122)]) (rest := []) (wr := []) (W1 := (wX w o hs pd sl) ++ (wT cI o a x124.2.1) ++ (wH cI cT hs hst ta ca x124.2.2) ++ (wPd cI pd sg nm pp)) hF (c_X3_pass l D cI cZ cT G _ w sl o a t hs hst ta ca hh pd sg nm pp ((1 : Int32) + x122) x124 h125) (cwV 1 hts (gqV mw_336 mw_337 mw_338 mw_51 mw_265) rfl rfl rfl hd_X3_pass ⟨Nat.le_of_ble_eq_true rfl, Nat.le_of_ble_eq_true rfl⟩) hK hP hD hS hA q_E_bl (q_E_go hE hS (q_freep (p4_A (wX w o hs pd sl) (wT cI o a t) (wH cI cT hs hst ta ca hh) (wPd cI pd sg nm pp)) hD hS hA)) (p4_A (wX w o hs pd sl) (wT cI o a t) (wH cI cT hs hst ta ca hh) (wPd cI pd sg nm pp)) (p4_A (wX w o hs pd sl) (wT cI o a x124.2.1) (wH cI cT hs hst ta ca x124.2.2) (wPd cI pd sg nm pp)).symm rfl rfl rfl hl.1 rfl (Nat.le_of_ble_eq_true rfl) dL_does_353 ⟨Nat.zero_le _, Nat.zero_le _⟩ (fun H locs hP hD hS => ?_)
    cases h
    exact x_retM C0 rfl hP hD hS dL_does_356
  · refine lv_if_ne (tgt := 347) hx hb dL_does_339 (by decide) (fun c126 => ?_) (fun c126 => ?_)
    · have h := xf c126 h
      refine lv_bipush (v := 60) hx hb dL_does_347 (by decide) ?_
      cases h
      exact hj _ (lv_sub hl [] rfl)
    · have h := xt c126 h
      refine lv_bipush (v := 8) hx hb dL_does_342 (by decide) ?_
      refine lv_goto (tgt := 349) hx hb dL_does_344 (by decide) ?_
      cases h
      exact hj _ (lv_sub hl [] rfl)

end G_LB

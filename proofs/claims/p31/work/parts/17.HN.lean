section G_HN
variable {p : Program} {l : Launch} {e : Env} {s : State} {m : MethodId} {args : Array Value} {below : List Frame} {meth : Method} {c : Code} {D : va_G} {cI cZ cT : ClassId}

/-! QuarrelWays.History.note (LQuarrelWays$Town;)V -/
def f_X0_note (hh : HH) (t : TT) : Option (HH) := ((f_X0_stateAt hh hh.2.1).bind fun x1 => (if x1 = (0 : Int32) then ((f_X2_become (hh.2.2 0) t).bind fun x4 => some (HU hh 0 x4)) else (if x1 = (1 : Int32) then ((f_X2_become (hh.2.2 1) t).bind fun x7 => some (HU hh 1 x7)) else (if x1 = (2 : Int32) then ((f_X2_become (hh.2.2 2) t).bind fun x10 => some (HU hh 2 x10)) else (if x1 = (3 : Int32) then ((f_X2_become (hh.2.2 3) t).bind fun x13 => some (HU hh 3 x13)) else (if x1 = (4 : Int32) then ((f_X2_become (hh.2.2 4) t).bind fun x16 => some (HU hh 4 x16)) else (if x1 = (5 : Int32) then ((f_X2_become (hh.2.2 5) t).bind fun x19 => some (HU hh 5 x19)) else (if x1 = (6 : Int32) then ((f_X2_become (hh.2.2 6) t).bind fun x22 => some (HU hh 6 x22)) else (if x1 = (-1 : Int32) then some hh else none)))))))))
abbrev rm_X0_note : Room := { frames := 3, cells := 0, slots := 0, locals := 85 }
theorem hd_X0_note : yX0_note.cls = RX0 ∧ yX0_note.cls ≠ "java/lang/invoke/MethodHandle" ∧ yX0_note.cls ≠ "java/lang/invoke/VarHandle" ∧ (parseMethodDescriptor yX0_note.desc).map (fun d => d.parameters.length) = some 1 := by decide +kernel
set_option maxHeartbeats 4000000 in
set_option maxRecDepth 100000 in
theorem c_X0_note (l : Launch) (D : va_G) (cI cZ cT : ClassId) (G : q_G) (sz : Nat) (hs hst : Nat) (ta ca : Nat → Nat) (hh : HH) (o a : Nat) (t : TT) (r : HH) (h : f_X0_note hh t = some r) : Met l yX0_note (wq yX0_note cX0_note 3 none) rm_X0_note (q_M D (q_tys cI cZ cT) sz ((wH cI cT hs hst ta ca hh) ++ (wT cI o a t)) (q_E G (va_A ((wH cI cT hs hst ta ca hh) ++ (wT cI o a t)) sz)) [.ref hs, .ref o]) (va_Qv (fun _ => True) (q_B D ((wH cI cT hs hst ta ca hh) ++ (wT cI o a t)) sz ((wH cI cT hs hst ta ca r) ++ (wT cI o a t))) (va_A ((wH cI cT hs hst ta ca hh) ++ (wT cI o a t)) sz)) 0 0 (va_A ((wH cI cT hs hst ta ca hh) ++ (wT cI o a t)) sz) := by
  refine q_MI (cc := cX0_note) (maxL := 3) (ret := none) (E := fun sz => (q_E G (va_A ((wH cI cT hs hst ta ca hh) ++ (wT cI o a t)) sz))) (Qc := fun sz => (va_Qv (fun _ => True) (q_B D ((wH cI cT hs hst ta ca hh) ++ (wT cI o a t)) sz ((wH cI cT hs hst ta ca r) ++ (wT cI o a t))) (va_A ((wH cI cT hs hst ta ca hh) ++ (wT cI o a t)) sz))) (free := fun sz => va_A ((wH cI cT hs hst ta ca hh) ++ (wT cI o a t)) sz) (plainFor_of_name (by decide)) (Nat.le_of_ble_eq_true rfl) (fun p e s m below meth c C0 hname hP hK hD hE ls hl => ?_)
  have hA : ∀ q, s.heap.size ≤ q → (va_A ((wH cI cT hs hst ta ca hh) ++ (wT cI o a t)) s.heap.size) q := fun _ => Or.inr
  have hS : va_S (va_A ((wH cI cT hs hst ta ca hh) ++ (wT cI o a t)) s.heap.size) s.heap s.heap [] := va_S.rf
  have hE : q_E G (va_A ((wH cI cT hs hst ta ca hh) ++ (wT cI o a t)) s.heap.size) s := hE
  have hl : lv_has ls 3 [(0, .ref hs), (1, .ref o)] := hl
  obtain ⟨hx, hb, hr, hml, hown, hts, hlocks⟩ := id C0
  have hF : CallFix p m c cX0_note 3 s _ BW RX0 := ⟨hx, hb, hml, hown, hts⟩
  rw [f_X0_note] at h
  refine lv_aload_n hx hb dX0_note_0 rfl (lv_at hl 0 rfl) ?_
  refine lv_aload_n hx hb dX0_note_1 rfl (lv_at hl 0 rfl) ?_
  refine va_get (D := D) (v := .int hh.2.1) (C := RX0) (T := TX0) (N := 3) hx hb hts iw_X0 hown hK hP 0 rfl rfl 2 (by decide) (hts _ mw_21) (fun _ h9 => h9) rfl dX0_note_2 ?_
  obtain ⟨x1, h2, h⟩ := bE h
  refine x_RVq (As := [.int hh.2.1]) (rest := []) hF (c_X0_stateAt l D cI cZ cT hs hst ta ca hh hh.2.1 x1 h2) (cwV 1 hts (gqV mw_42 mw_43 mw_44 mw_33 mw_29) rfl rfl rfl hd_X0_stateAt ⟨Nat.le_of_ble_eq_true rfl, Nat.le_of_ble_eq_true rfl⟩) hK hP q_T_bl (fun _ _ _ => trivial) [0, 1, 2, 3, 4, 5, 6, 7, 8, 9, 10, 11, 12, 13, 14, 15] rfl rfl rfl rfl hl.1 rfl (Nat.le_of_ble_eq_true rfl) dX0_note_5 ⟨Nat.zero_le _, Nat.zero_le _⟩ ?_
  by_cases c3 : x1 = (0 : Int32)
  · have h := xt c3 h
    rw [c3, q_ref_0]
    refine lv_astore_n (lv' := [(2, .ref (ta 0)), (0, .ref hs), (1, .ref o)]) hx hb dX0_note_8 rfl hl (by decide) rfl (fun ls hl => ?_)
    refine lv_aload_n hx hb dX0_note_9 rfl (lv_at hl 0 rfl) ?_
    refine lv_ifnull hx hb dX0_note_10 ?_
    refine lv_aload_n hx hb dX0_note_13 rfl (lv_at hl 0 rfl) ?_
    refine lv_aload_n hx hb dX0_note_14 rfl (lv_at hl 2 rfl) ?_
    obtain ⟨x4, h5, h⟩ := bE h
    refine x_VVN (As := [.ref o]) (rest := []) (wr := (([0, 1, 4, 5, 6, 7, 8, 9, 10, 11, 12, 13, 14, 15] : List Nat).filterMap (fun i => ((wH cI cT hs hst ta ca hh) ++ (wT cI o a t))[i]?))) (W1 := (wH cI cT hs hst ta ca (HU hh 0 x4)) ++ (wT cI o a t)) hF (c_X2_become l D cI cZ cT _ (ta 0) (ca 0) (hh.2.2 0) o a t  x4 h5) ⟨(va_cnB 1 hts (gq mw_34) rfl rfl rfl (nM_of hE 1 rfl) (hts _ mw_15) hd_X2_become.2 ⟨Nat.le_of_ble_eq_true rfl, Nat.le_of_ble_eq_true rfl⟩), hts _ mw_45, hts _ mw_46⟩ hK hP hD hS hA q_T_bl (fun _ _ _ => trivial) [2, 3, 16, 17] [0, 1, 4, 5, 6, 7, 8, 9, 10, 11, 12, 13, 14, 15] [0, 1, 14, 15, 2, 3, 4, 5, 6, 7, 8, 9, 10, 11, 12, 13, 16, 17] rfl rfl ⟨rfl, rfl, rfl, rfl⟩ rfl rfl rfl rfl hl.1 rfl (Nat.le_of_ble_eq_true rfl) dX0_note_15 ⟨Nat.zero_le _, Nat.zero_le _⟩ (fun H locs hP hD hS => ?_)
    cases h
    exact x_retV C0 hP hD hS dX0_note_18
  have h := xf c3 h
  by_cases c6 : x1 = (1 : Int32)
  · have h := xt c6 h
    rw [c6, q_ref_1]
    refine lv_astore_n (lv' := [(2, .ref (ta 1)), (0, .ref hs), (1, .ref o)]) hx hb dX0_note_8 rfl hl (by decide) rfl (fun ls hl => ?_)
    refine lv_aload_n hx hb dX0_note_9 rfl (lv_at hl 0 rfl) ?_
    refine lv_ifnull hx hb dX0_note_10 ?_
    refine lv_aload_n hx hb dX0_note_13 rfl (lv_at hl 0 rfl) ?_
    refine lv_aload_n hx hb dX0_note_14 rfl (lv_at hl 2 rfl) ?_
    obtain ⟨x7, h8, h⟩ := bE h
    refine x_VVN (As := [.ref o]) (rest := []) (wr := (([0, 1, 2, 3, 6, 7, 8, 9, 10, 11, 12, 13, 14, 15] : List Nat).filterMap (fun i => ((wH cI cT hs hst ta ca hh) ++ (wT cI o a t))[i]?))) (W1 := (wH cI cT hs hst ta ca (HU hh 1 x7)) ++ (wT cI o a t)) hF (c_X2_become l D cI cZ cT _ (ta 1) (ca 1) (hh.2.2 1) o a t  x7 h8) ⟨(va_cnB 1 hts (gq mw_34) rfl rfl rfl (nM_of hE 1 rfl) (hts _ mw_15) hd_X2_become.2 ⟨Nat.le_of_ble_eq_true rfl, Nat.le_of_ble_eq_true rfl⟩), hts _ mw_45, hts _ mw_46⟩ hK hP hD hS hA q_T_bl (fun _ _ _ => trivial) [4, 5, 16, 17] [0, 1, 2, 3, 6, 7, 8, 9, 10, 11, 12, 13, 14, 15] [0, 1, 2, 3, 14, 15, 4, 5, 6, 7, 8, 9, 10, 11, 12, 13, 16, 17] rfl rfl ⟨rfl, rfl, rfl, rfl⟩ rfl rfl rfl rfl hl.1 rfl (Nat.le_of_ble_eq_true rfl) dX0_note_15 ⟨Nat.zero_le _, Nat.zero_le _⟩ (fun H locs hP hD hS => ?_)
    cases h
    exact x_retV C0 hP hD hS dX0_note_18
  have h := xf c6 h
  by_cases c9 : x1 = (2 : Int32)
  · have h := xt c9 h
    rw [c9, q_ref_2]
    refine lv_astore_n (lv' := [(2, .ref (ta 2)), (0, .ref hs), (1, .ref o)]) hx hb dX0_note_8 rfl hl (by decide) rfl (fun ls hl => ?_)
    refine lv_aload_n hx hb dX0_note_9 rfl (lv_at hl 0 rfl) ?_
    refine lv_ifnull hx hb dX0_note_10 ?_
    refine lv_aload_n hx hb dX0_note_13 rfl (lv_at hl 0 rfl) ?_
    refine lv_aload_n hx hb dX0_note_14 rfl (lv_at hl 2 rfl) ?_
    obtain ⟨x10, h11, h⟩ := bE h
    refine x_VVN (As := [.ref o]) (rest := []) (wr := (([0, 1, 2, 3, 4, 5, 8, 9, 10, 11, 12, 13, 14, 15] : List Nat).filterMap (fun i => ((wH cI cT hs hst ta ca hh) ++ (wT cI o a t))[i]?))) (W1 := (wH cI cT hs hst ta ca (HU hh 2 x10)) ++ (wT cI o a t)) hF (c_X2_become l D cI cZ cT _ (ta 2) (ca 2) (hh.2.2 2) o a t  x10 h11) ⟨(va_cnB 1 hts (gq mw_34) rfl rfl rfl (nM_of hE 1 rfl) (hts _ mw_15) hd_X2_become.2 ⟨Nat.le_of_ble_eq_true rfl, Nat.le_of_ble_eq_true rfl⟩), hts _ mw_45, hts _ mw_46⟩ hK hP hD hS hA q_T_bl (fun _ _ _ => trivial) [6, 7, 16, 17] [0, 1, 2, 3, 4, 5, 8, 9, 10, 11, 12, 13, 14, 15] [0, 1, 2, 3, 4, 5, 14, 15, 6, 7, 8, 9, 10, 11, 12, 13, 16, 17] rfl rfl ⟨rfl, rfl, rfl, rfl⟩ rfl rfl rfl rfl hl.1 rfl (Nat.le_of_ble_eq_true rfl) dX0_note_15 ⟨Nat.zero_le _, Nat.zero_le _⟩ (fun H locs hP hD hS => ?_)
    cases h
    exact x_retV C0 hP hD hS dX0_note_18
  have h := xf c9 h
  by_cases c12 : x1 = (3 : Int32)
  · have h := xt c12 h
    rw [c12, q_ref_3]
    refine lv_astore_n (lv' := [(2, .ref (ta 3)), (0, .ref hs), (1, .ref o)]) hx hb dX0_note_8 rfl hl (by decide) rfl (fun ls hl => ?_)
    refine lv_aload_n hx hb dX0_note_9 rfl (lv_at hl 0 rfl) ?_
    refine lv_ifnull hx hb dX0_note_10 ?_
    refine lv_aload_n hx hb dX0_note_13 rfl (lv_at hl 0 rfl) ?_
    refine lv_aload_n hx hb dX0_note_14 rfl (lv_at hl 2 rfl) ?_
    obtain ⟨x13, h14, h⟩ := bE h
    refine x_VVN (As := [.ref o]) (rest := []) (wr := (([0, 1, 2, 3, 4, 5, 6, 7, 10, 11, 12, 13, 14, 15] : List Nat).filterMap (fun i => ((wH cI cT hs hst ta ca hh) ++ (wT cI o a t))[i]?))) (W1 := (wH cI cT hs hst ta ca (HU hh 3 x13)) ++ (wT cI o a t)) hF (c_X2_become l D cI cZ cT _ (ta 3) (ca 3) (hh.2.2 3) o a t  x13 h14) ⟨(va_cnB 1 hts (gq mw_34) rfl rfl rfl (nM_of hE 1 rfl) (hts _ mw_15) hd_X2_become.2 ⟨Nat.le_of_ble_eq_true rfl, Nat.le_of_ble_eq_true rfl⟩), hts _ mw_45, hts _ mw_46⟩ hK hP hD hS hA q_T_bl (fun _ _ _ => trivial) [8, 9, 16, 17] [0, 1, 2, 3, 4, 5, 6, 7, 10, 11, 12, 13, 14, 15] [0, 1, 2, 3, 4, 5, 6, 7, 14, 15, 8, 9, 10, 11, 12, 13, 16, 17] rfl rfl ⟨rfl, rfl, rfl, rfl⟩ rfl rfl rfl rfl hl.1 rfl (Nat.le_of_ble_eq_true rfl) dX0_note_15 ⟨Nat.zero_le _, Nat.zero_le _⟩ (fun H locs hP hD hS => ?_)
    cases h
    exact x_retV C0 hP hD hS dX0_note_18
  have h := xf c12 h
  by_cases c15 : x1 = (4 : Int32)
  · have h := xt c15 h
    rw [c15, q_ref_4]
    refine lv_astore_n (lv' := [(2, .ref (ta 4)), (0, .ref hs), (1, .ref o)]) hx hb dX0_note_8 rfl hl (by decide) rfl (fun ls hl => ?_)
    refine lv_aload_n hx hb dX0_note_9 rfl (lv_at hl 0 rfl) ?_
    refine lv_ifnull hx hb dX0_note_10 ?_
    refine lv_aload_n hx hb dX0_note_13 rfl (lv_at hl 0 rfl) ?_
    refine lv_aload_n hx hb dX0_note_14 rfl (lv_at hl 2 rfl) ?_
    obtain ⟨x16, h17, h⟩ := bE h
    refine x_VVN (As := [.ref o]) (rest := []) (wr := (([0, 1, 2, 3, 4, 5, 6, 7, 8, 9, 12, 13, 14, 15] : List Nat).filterMap (fun i => ((wH cI cT hs hst ta ca hh) ++ (wT cI o a t))[i]?))) (W1 := (wH cI cT hs hst ta ca (HU hh 4 x16)) ++ (wT cI o a t)) hF (c_X2_become l D cI cZ cT _ (ta 4) (ca 4) (hh.2.2 4) o a t  x16 h17) ⟨(va_cnB 1 hts (gq mw_34) rfl rfl rfl (nM_of hE 1 rfl) (hts _ mw_15) hd_X2_become.2 ⟨Nat.le_of_ble_eq_true rfl, Nat.le_of_ble_eq_true rfl⟩), hts _ mw_45, hts _ mw_46⟩ hK hP hD hS hA q_T_bl (fun _ _ _ => trivial) [10, 11, 16, 17] [0, 1, 2, 3, 4, 5, 6, 7, 8, 9, 12, 13, 14, 15] [0, 1, 2, 3, 4, 5, 6, 7, 8, 9, 14, 15, 10, 11, 12, 13, 16, 17] rfl rfl ⟨rfl, rfl, rfl, rfl⟩ rfl rfl rfl rfl hl.1 rfl (Nat.le_of_ble_eq_true rfl) dX0_note_15 ⟨Nat.zero_le _, Nat.zero_le _⟩ (fun H locs hP hD hS => ?_)
    cases h
    exact x_retV C0 hP hD hS dX0_note_18
  have h := xf c15 h
  by_cases c18 : x1 = (5 : Int32)
  · have h := xt c18 h
    rw [c18, q_ref_5]
    refine lv_astore_n (lv' := [(2, .ref (ta 5)), (0, .ref hs), (1, .ref o)]) hx hb dX0_note_8 rfl hl (by decide) rfl (fun ls hl => ?_)
    refine lv_aload_n hx hb dX0_note_9 rfl (lv_at hl 0 rfl) ?_
    refine lv_ifnull hx hb dX0_note_10 ?_
    refine lv_aload_n hx hb dX0_note_13 rfl (lv_at hl 0 rfl) ?_
    refine lv_aload_n hx hb dX0_note_14 rfl (lv_at hl 2 rfl) ?_
    obtain ⟨x19, h20, h⟩ := bE h
    refine x_VVN (As := [.ref o]) (rest := []) (wr := (([0, 1, 2, 3, 4, 5, 6, 7, 8, 9, 10, 11, 14, 15] : List Nat).filterMap (fun i => ((wH cI cT hs hst ta ca hh) ++ (wT cI o a t))[i]?))) (W1 := (wH cI cT hs hst ta ca (HU hh 5 x19)) ++ (wT cI o a t)) hF (c_X2_become l D cI cZ cT _ (ta 5) (ca 5) (hh.2.2 5) o a t  x19 h20) ⟨(va_cnB 1 hts (gq mw_34) rfl rfl rfl (nM_of hE 1 rfl) (hts _ mw_15) hd_X2_become.2 ⟨Nat.le_of_ble_eq_true rfl, Nat.le_of_ble_eq_true rfl⟩), hts _ mw_45, hts _ mw_46⟩ hK hP hD hS hA q_T_bl (fun _ _ _ => trivial) [12, 13, 16, 17] [0, 1, 2, 3, 4, 5, 6, 7, 8, 9, 10, 11, 14, 15] [0, 1, 2, 3, 4, 5, 6, 7, 8, 9, 10, 11, 14, 15, 12, 13, 16, 17] rfl rfl ⟨rfl, rfl, rfl, rfl⟩ rfl rfl rfl rfl hl.1 rfl (Nat.le_of_ble_eq_true rfl) dX0_note_15 ⟨Nat.zero_le _, Nat.zero_le _⟩ (fun H locs hP hD hS => ?_)
    cases h
    exact x_retV C0 hP hD hS dX0_note_18
  have h := xf c18 h
  by_cases c21 : x1 = (6 : Int32)
  · have h := xt c21 h
    rw [c21, q_ref_6]
    refine lv_astore_n (lv' := [(2, .ref (ta 6)), (0, .ref hs), (1, .ref o)]) hx hb dX0_note_8 rfl hl (by decide) rfl (fun ls hl => ?_)
    refine lv_aload_n hx hb dX0_note_9 rfl (lv_at hl 0 rfl) ?_
    refine lv_ifnull hx hb dX0_note_10 ?_
    refine lv_aload_n hx hb dX0_note_13 rfl (lv_at hl 0 rfl) ?_
    refine lv_aload_n hx hb dX0_note_14 rfl (lv_at hl 2 rfl) ?_
    obtain ⟨x22, h23, h⟩ := bE h
    refine x_VVN (As := [.ref o]) (rest := []) (wr := (([0, 1, 2, 3, 4, 5, 6, 7, 8, 9, 10, 11, 12, 13] : List Nat).filterMap (fun i => ((wH cI cT hs hst ta ca hh) ++ (wT cI o a t))[i]?))) (W1 := (wH cI cT hs hst ta ca (HU hh 6 x22)) ++ (wT cI o a t)) hF (c_X2_become l D cI cZ cT _ (ta 6) (ca 6) (hh.2.2 6) o a t  x22 h23) ⟨(va_cnB 1 hts (gq mw_34) rfl rfl rfl (nM_of hE 1 rfl) (hts _ mw_15) hd_X2_become.2 ⟨Nat.le_of_ble_eq_true rfl, Nat.le_of_ble_eq_true rfl⟩), hts _ mw_45, hts _ mw_46⟩ hK hP hD hS hA q_T_bl (fun _ _ _ => trivial) [14, 15, 16, 17] [0, 1, 2, 3, 4, 5, 6, 7, 8, 9, 10, 11, 12, 13] [0, 1, 2, 3, 4, 5, 6, 7, 8, 9, 10, 11, 12, 13, 14, 15, 16, 17] rfl rfl ⟨rfl, rfl, rfl, rfl⟩ rfl rfl rfl rfl hl.1 rfl (Nat.le_of_ble_eq_true rfl) dX0_note_15 ⟨Nat.zero_le _, Nat.zero_le _⟩ (fun H locs hP hD hS => ?_)
    cases h
    exact x_retV C0 hP hD hS dX0_note_18
  have h := xf c21 h
  by_cases c24 : x1 = (-1 : Int32)
  · have h := xt c24 h
    rw [c24, q_ref_n]
    refine lv_astore_nN (lv' := [(2, .null), (0, .ref hs), (1, .ref o)]) hx hb dX0_note_8 rfl hl (by decide) rfl (fun ls hl => ?_)
    refine lv_aload_nN hx hb dX0_note_9 rfl (lv_at hl 0 rfl) ?_
    refine lv_ifnullN (tgt := 18) hx hb dX0_note_10 (by decide) ?_
    cases h
    exact x_retV C0 hP hD hS dX0_note_18
  have h := xf c24 h
  cases h

/-! QuarrelWays.History.goBack (LQuarrelWays$Town;)Z -/
def f_X0_goBack (hh : HH) (t : TT) : Option (Int32 × HH × TT) := ((f_X0_stateAt hh (hh.2.1 - (1 : Int32))).bind fun x1 => (if x1 = (0 : Int32) then (if hh.2.1 = 0 then some ((0 : Int32), hh, t) else ((f_X2_become t (hh.2.2 0)).bind fun x5 => some ((1 : Int32), (H2 hh (hh.2.1 - (1 : Int32))), x5))) else (if x1 = (1 : Int32) then (if hh.2.1 = 0 then some ((0 : Int32), hh, t) else ((f_X2_become t (hh.2.2 1)).bind fun x9 => some ((1 : Int32), (H2 hh (hh.2.1 - (1 : Int32))), x9))) else (if x1 = (2 : Int32) then (if hh.2.1 = 0 then some ((0 : Int32), hh, t) else ((f_X2_become t (hh.2.2 2)).bind fun x13 => some ((1 : Int32), (H2 hh (hh.2.1 - (1 : Int32))), x13))) else (if x1 = (3 : Int32) then (if hh.2.1 = 0 then some ((0 : Int32), hh, t) else ((f_X2_become t (hh.2.2 3)).bind fun x17 => some ((1 : Int32), (H2 hh (hh.2.1 - (1 : Int32))), x17))) else (if x1 = (4 : Int32) then (if hh.2.1 = 0 then some ((0 : Int32), hh, t) else ((f_X2_become t (hh.2.2 4)).bind fun x21 => some ((1 : Int32), (H2 hh (hh.2.1 - (1 : Int32))), x21))) else (if x1 = (5 : Int32) then (if hh.2.1 = 0 then some ((0 : Int32), hh, t) else ((f_X2_become t (hh.2.2 5)).bind fun x25 => some ((1 : Int32), (H2 hh (hh.2.1 - (1 : Int32))), x25))) else (if x1 = (6 : Int32) then (if hh.2.1 = 0 then some ((0 : Int32), hh, t) else ((f_X2_become t (hh.2.2 6)).bind fun x29 => some ((1 : Int32), (H2 hh (hh.2.1 - (1 : Int32))), x29))) else (if x1 = (-1 : Int32) then (if hh.2.1 = 0 then some ((0 : Int32), hh, t) else some ((0 : Int32), hh, t)) else none)))))))))
abbrev rm_X0_goBack : Room := { frames := 3, cells := 0, slots := 0, locals := 85 }
theorem hd_X0_goBack : yX0_goBack.cls = RX0 ∧ yX0_goBack.cls ≠ "java/lang/invoke/MethodHandle" ∧ yX0_goBack.cls ≠ "java/lang/invoke/VarHandle" ∧ (parseMethodDescriptor yX0_goBack.desc).map (fun d => d.parameters.length) = some 1 := by decide +kernel
set_option maxHeartbeats 4000000 in
set_option maxRecDepth 100000 in
theorem c_X0_goBack (l : Launch) (D : va_G) (cI cZ cT : ClassId) (G : q_G) (sz : Nat) (hs hst : Nat) (ta ca : Nat → Nat) (hh : HH) (o a : Nat) (t : TT) (r : Int32 × HH × TT) (h : f_X0_goBack hh t = some r) : Met l yX0_goBack (wq yX0_goBack cX0_goBack 3 (some .boolean)) rm_X0_goBack (q_M D (q_tys cI cZ cT) sz ((wH cI cT hs hst ta ca hh) ++ (wT cI o a t)) (q_E G (va_A ((wH cI cT hs hst ta ca hh) ++ (wT cI o a t)) sz)) [.ref hs, .ref o]) (va_Qi (fun r' _ => r' = r.1) (q_B D ((wH cI cT hs hst ta ca hh) ++ (wT cI o a t)) sz ((wH cI cT hs hst ta ca r.2.1) ++ (wT cI o a r.2.2))) (va_A ((wH cI cT hs hst ta ca hh) ++ (wT cI o a t)) sz)) 0 0 (va_A ((wH cI cT hs hst ta ca hh) ++ (wT cI o a t)) sz) := by
  refine q_MI (cc := cX0_goBack) (maxL := 3) (ret := (some .boolean)) (E := fun sz => (q_E G (va_A ((wH cI cT hs hst ta ca hh) ++ (wT cI o a t)) sz))) (Qc := fun sz => (va_Qi (fun r' _ => r' = r.1) (q_B D ((wH cI cT hs hst ta ca hh) ++ (wT cI o a t)) sz ((wH cI cT hs hst ta ca r.2.1) ++ (wT cI o a r.2.2))) (va_A ((wH cI cT hs hst ta ca hh) ++ (wT cI o a t)) sz))) (free := fun sz => va_A ((wH cI cT hs hst ta ca hh) ++ (wT cI o a t)) sz) (plainFor_of_name (by decide)) (Nat.le_of_ble_eq_true rfl) (fun p e s m below meth c C0 hname hP hK hD hE ls hl => ?_)
  have hA : ∀ q, s.heap.size ≤ q → (va_A ((wH cI cT hs hst ta ca hh) ++ (wT cI o a t)) s.heap.size) q := fun _ => Or.inr
  have hS : va_S (va_A ((wH cI cT hs hst ta ca hh) ++ (wT cI o a t)) s.heap.size) s.heap s.heap [] := va_S.rf
  have hE : q_E G (va_A ((wH cI cT hs hst ta ca hh) ++ (wT cI o a t)) s.heap.size) s := hE
  have hl : lv_has ls 3 [(0, .ref hs), (1, .ref o)] := hl
  obtain ⟨hx, hb, hr, hml, hown, hts, hlocks⟩ := id C0
  have hF : CallFix p m c cX0_goBack 3 s _ BW RX0 := ⟨hx, hb, hml, hown, hts⟩
  rw [f_X0_goBack] at h
  refine lv_aload_n hx hb dX0_goBack_0 rfl (lv_at hl 0 rfl) ?_
  refine lv_aload_n hx hb dX0_goBack_1 rfl (lv_at hl 0 rfl) ?_
  refine va_get (D := D) (v := .int hh.2.1) (C := RX0) (T := TX0) (N := 3) hx hb hts iw_X0 hown hK hP 0 rfl rfl 2 (by decide) (hts _ mw_21) (fun _ h9 => h9) rfl dX0_goBack_2 ?_
  refine lv_iconst (v := 1) hx hb dX0_goBack_5 (by decide) ?_
  refine lv_isub hx hb dX0_goBack_6 ?_
  obtain ⟨x1, h2, h⟩ := bE h
  refine x_RVq (As := [.int (hh.2.1 - (1 : Int32))]) (rest := []) hF (c_X0_stateAt l D cI cZ cT hs hst ta ca hh (hh.2.1 - (1 : Int32)) x1 h2) (cwV 1 hts (gqV mw_42 mw_43 mw_44 mw_33 mw_29) rfl rfl rfl hd_X0_stateAt ⟨Nat.le_of_ble_eq_true rfl, Nat.le_of_ble_eq_true rfl⟩) hK hP q_T_bl (fun _ _ _ => trivial) [0, 1, 2, 3, 4, 5, 6, 7, 8, 9, 10, 11, 12, 13, 14, 15] rfl rfl rfl rfl hl.1 rfl (Nat.le_of_ble_eq_true rfl) dX0_goBack_7 ⟨Nat.zero_le _, Nat.zero_le _⟩ ?_
  by_cases c3 : x1 = (0 : Int32)
  · have h := xt c3 h
    rw [c3, q_ref_0]
    refine lv_astore_n (lv' := [(2, .ref (ta 0)), (0, .ref hs), (1, .ref o)]) hx hb dX0_goBack_10 rfl hl (by decide) rfl (fun ls hl => ?_)
    refine lv_aload_n hx hb dX0_goBack_11 rfl (lv_at hl 1 rfl) ?_
    refine va_get (D := D) (v := .int hh.2.1) (C := RX0) (T := TX0) (N := 3) hx hb hts iw_X0 hown hK hP 0 rfl rfl 2 (by decide) (hts _ mw_21) (fun _ h9 => h9) rfl dX0_goBack_12 ?_
    refine lv_if_eq (tgt := 22) hx hb dX0_goBack_15 (by decide) (fun c4 => ?_) (fun c4 => ?_)
    · have h := xt c4 h
      refine lv_iconst (v := 0) hx hb dX0_goBack_22 (by decide) ?_
      cases h
      exact x_retM C0 narrow_b0 hP hD hS dX0_goBack_23
    · have h := xf c4 h
      refine lv_aload_n hx hb dX0_goBack_18 rfl (lv_at hl 0 rfl) ?_
      refine lv_ifnonnull (tgt := 24) hx hb dX0_goBack_19 (by decide) ?_
      refine lv_aload_n hx hb dX0_goBack_24 rfl (lv_at hl 2 rfl) ?_
      refine lv_aload_n hx hb dX0_goBack_25 rfl (lv_at hl 0 rfl) ?_
      obtain ⟨x5, h6, h⟩ := bE h
      refine x_VVN (As := [.ref (ta 0)]) (rest := []) (wr := (([0, 1, 4, 5, 6, 7, 8, 9, 10, 11, 12, 13, 14, 15] : List Nat).filterMap (fun i => ((wH cI cT hs hst ta ca hh) ++ (wT cI o a t))[i]?))) (W1 := (wH cI cT hs hst ta ca hh) ++ (wT cI o a x5)) hF (c_X2_become l D cI cZ cT _ o a t (ta 0) (ca 0) (hh.2.2 0)  x5 h6) ⟨(va_cnB 1 hts (gq mw_34) rfl rfl rfl (nM_of hE 1 rfl) (hts _ mw_15) hd_X2_become.2 ⟨Nat.le_of_ble_eq_true rfl, Nat.le_of_ble_eq_true rfl⟩), hts _ mw_45, hts _ mw_46⟩ hK hP hD hS hA q_T_bl (fun _ _ _ => trivial) [16, 17, 2, 3] [0, 1, 4, 5, 6, 7, 8, 9, 10, 11, 12, 13, 14, 15] [0, 1, 16, 17, 2, 3, 4, 5, 6, 7, 8, 9, 10, 11, 12, 13, 14, 15] rfl rfl ⟨rfl, rfl, rfl, rfl⟩ rfl rfl rfl rfl hl.1 rfl (Nat.le_of_ble_eq_true rfl) dX0_goBack_26 ⟨Nat.zero_le _, Nat.zero_le _⟩ (fun H locs hP hD hS => ?_)
      refine lv_aload_n hx hb dX0_goBack_29 rfl (lv_at hl 1 rfl) ?_
      refine lv_dup hx hb dX0_goBack_30 rfl ?_
      refine va_get (D := D) (v := .int hh.2.1) (C := RX0) (T := TX0) (N := 3) hx hb hts iw_X0 hown hK hP 0 rfl rfl 2 (by decide) (hts _ mw_21) (fun _ h9 => h9) rfl dX0_goBack_31 ?_
      refine lv_iconst (v := 1) hx hb dX0_goBack_34 (by decide) ?_
      refine lv_isub hx hb dX0_goBack_35 ?_
      refine va_put (D := D) (v := .int (hh.2.1 - (1 : Int32))) (ty := .int) (C := RX0) (T := TX0) (N := 3) hx hb hts iw_X0 tyX0 tyX0_ok nmX0 hown hK hP hD hS 0 rfl rfl 2 (by decide) (hts _ mw_21) (fun _ h9 => h9) rfl (by decide +kernel) rfl rfl (Nat.le_of_ble_eq_true rfl) dX0_goBack_36 (fun H locs hP hD hS => ?_)
      have hP : va_P D vwCl ((wH cI cT hs hst ta ca (H2 hh (hh.2.1 - (1 : Int32)))) ++ (wT cI o a x5)) H := hP
      have hD : va_D (va_A ((wH cI cT hs hst ta ca hh) ++ (wT cI o a t)) s.heap.size) ((wH cI cT hs hst ta ca (H2 hh (hh.2.1 - (1 : Int32)))) ++ (wT cI o a x5)) := hD
      refine lv_iconst (v := 1) hx hb dX0_goBack_39 (by decide) ?_
      cases h
      exact x_retM C0 narrow_b1 hP hD hS dX0_goBack_40
  have h := xf c3 h
  by_cases c7 : x1 = (1 : Int32)
  · have h := xt c7 h
    rw [c7, q_ref_1]
    refine lv_astore_n (lv' := [(2, .ref (ta 1)), (0, .ref hs), (1, .ref o)]) hx hb dX0_goBack_10 rfl hl (by decide) rfl (fun ls hl => ?_)
    refine lv_aload_n hx hb dX0_goBack_11 rfl (lv_at hl 1 rfl) ?_
    refine va_get (D := D) (v := .int hh.2.1) (C := RX0) (T := TX0) (N := 3) hx hb hts iw_X0 hown hK hP 0 rfl rfl 2 (by decide) (hts _ mw_21) (fun _ h9 => h9) rfl dX0_goBack_12 ?_
    refine lv_if_eq (tgt := 22) hx hb dX0_goBack_15 (by decide) (fun c8 => ?_) (fun c8 => ?_)
    · have h := xt c8 h
      refine lv_iconst (v := 0) hx hb dX0_goBack_22 (by decide) ?_
      cases h
      exact x_retM C0 narrow_b0 hP hD hS dX0_goBack_23
    · have h := xf c8 h
      refine lv_aload_n hx hb dX0_goBack_18 rfl (lv_at hl 0 rfl) ?_
      refine lv_ifnonnull (tgt := 24) hx hb dX0_goBack_19 (by decide) ?_
      refine lv_aload_n hx hb dX0_goBack_24 rfl (lv_at hl 2 rfl) ?_
      refine lv_aload_n hx hb dX0_goBack_25 rfl (lv_at hl 0 rfl) ?_
      obtain ⟨x9, h10, h⟩ := bE h
      refine x_VVN (As := [.ref (ta 1)]) (rest := []) (wr := (([0, 1, 2, 3, 6, 7, 8, 9, 10, 11, 12, 13, 14, 15] : List Nat).filterMap (fun i => ((wH cI cT hs hst ta ca hh) ++ (wT cI o a t))[i]?))) (W1 := (wH cI cT hs hst ta ca hh) ++ (wT cI o a x9)) hF (c_X2_become l D cI cZ cT _ o a t (ta 1) (ca 1) (hh.2.2 1)  x9 h10) ⟨(va_cnB 1 hts (gq mw_34) rfl rfl rfl (nM_of hE 1 rfl) (hts _ mw_15) hd_X2_become.2 ⟨Nat.le_of_ble_eq_true rfl, Nat.le_of_ble_eq_true rfl⟩), hts _ mw_45, hts _ mw_46⟩ hK hP hD hS hA q_T_bl (fun _ _ _ => trivial) [16, 17, 4, 5] [0, 1, 2, 3, 6, 7, 8, 9, 10, 11, 12, 13, 14, 15] [0, 1, 2, 3, 16, 17, 4, 5, 6, 7, 8, 9, 10, 11, 12, 13, 14, 15] rfl rfl ⟨rfl, rfl, rfl, rfl⟩ rfl rfl rfl rfl hl.1 rfl (Nat.le_of_ble_eq_true rfl) dX0_goBack_26 ⟨Nat.zero_le _, Nat.zero_le _⟩ (fun H locs hP hD hS => ?_)
      refine lv_aload_n hx hb dX0_goBack_29 rfl (lv_at hl 1 rfl) ?_
      refine lv_dup hx hb dX0_goBack_30 rfl ?_
      refine va_get (D := D) (v := .int hh.2.1) (C := RX0) (T := TX0) (N := 3) hx hb hts iw_X0 hown hK hP 0 rfl rfl 2 (by decide) (hts _ mw_21) (fun _ h9 => h9) rfl dX0_goBack_31 ?_
      refine lv_iconst (v := 1) hx hb dX0_goBack_34 (by decide) ?_
      refine lv_isub hx hb dX0_goBack_35 ?_
      refine va_put (D := D) (v := .int (hh.2.1 - (1 : Int32))) (ty := .int) (C := RX0) (T := TX0) (N := 3) hx hb hts iw_X0 tyX0 tyX0_ok nmX0 hown hK hP hD hS 0 rfl rfl 2 (by decide) (hts _ mw_21) (fun _ h9 => h9) rfl (by decide +kernel) rfl rfl (Nat.le_of_ble_eq_true rfl) dX0_goBack_36 (fun H locs hP hD hS => ?_)
      have hP : va_P D vwCl ((wH cI cT hs hst ta ca (H2 hh (hh.2.1 - (1 : Int32)))) ++ (wT cI o a x9)) H := hP
      have hD : va_D (va_A ((wH cI cT hs hst ta ca hh) ++ (wT cI o a t)) s.heap.size) ((wH cI cT hs hst ta ca (H2 hh (hh.2.1 - (1 : Int32)))) ++ (wT cI o a x9)) := hD
      refine lv_iconst (v := 1) hx hb dX0_goBack_39 (by decide) ?_
      cases h
      exact x_retM C0 narrow_b1 hP hD hS dX0_goBack_40
  have h := xf c7 h
  by_cases c11 : x1 = (2 : Int32)
  · have h := xt c11 h
    rw [c11, q_ref_2]
    refine lv_astore_n (lv' := [(2, .ref (ta 2)), (0, .ref hs), (1, .ref o)]) hx hb dX0_goBack_10 rfl hl (by decide) rfl (fun ls hl => ?_)
    refine lv_aload_n hx hb dX0_goBack_11 rfl (lv_at hl 1 rfl) ?_
    refine va_get (D := D) (v := .int hh.2.1) (C := RX0) (T := TX0) (N := 3) hx hb hts iw_X0 hown hK hP 0 rfl rfl 2 (by decide) (hts _ mw_21) (fun _ h9 => h9) rfl dX0_goBack_12 ?_
    refine lv_if_eq (tgt := 22) hx hb dX0_goBack_15 (by decide) (fun c12 => ?_) (fun c12 => ?_)
    · have h := xt c12 h
      refine lv_iconst (v := 0) hx hb dX0_goBack_22 (by decide) ?_
      cases h
      exact x_retM C0 narrow_b0 hP hD hS dX0_goBack_23
    · have h := xf c12 h
      refine lv_aload_n hx hb dX0_goBack_18 rfl (lv_at hl 0 rfl) ?_
      refine lv_ifnonnull (tgt := 24) hx hb dX0_goBack_19 (by decide) ?_
      refine lv_aload_n hx hb dX0_goBack_24 rfl (lv_at hl 2 rfl) ?_
      refine lv_aload_n hx hb dX0_goBack_25 rfl (lv_at hl 0 rfl) ?_
      obtain ⟨x13, h14, h⟩ := bE h
      refine x_VVN (As := [.ref (ta 2)]) (rest := []) (wr := (([0, 1, 2, 3, 4, 5, 8, 9, 10, 11, 12, 13, 14, 15] : List Nat).filterMap (fun i => ((wH cI cT hs hst ta ca hh) ++ (wT cI o a t))[i]?))) (W1 := (wH cI cT hs hst ta ca hh) ++ (wT cI o a x13)) hF (c_X2_become l D cI cZ cT _ o a t (ta 2) (ca 2) (hh.2.2 2)  x13 h14) ⟨(va_cnB 1 hts (gq mw_34) rfl rfl rfl (nM_of hE 1 rfl) (hts _ mw_15) hd_X2_become.2 ⟨Nat.le_of_ble_eq_true rfl, Nat.le_of_ble_eq_true rfl⟩), hts _ mw_45, hts _ mw_46⟩ hK hP hD hS hA q_T_bl (fun _ _ _ => trivial) [16, 17, 6, 7] [0, 1, 2, 3, 4, 5, 8, 9, 10, 11, 12, 13, 14, 15] [0, 1, 2, 3, 4, 5, 16, 17, 6, 7, 8, 9, 10, 11, 12, 13, 14, 15] rfl rfl ⟨rfl, rfl, rfl, rfl⟩ rfl rfl rfl rfl hl.1 rfl (Nat.le_of_ble_eq_true rfl) dX0_goBack_26 ⟨Nat.zero_le _, Nat.zero_le _⟩ (fun H locs hP hD hS => ?_)
      refine lv_aload_n hx hb dX0_goBack_29 rfl (lv_at hl 1 rfl) ?_
      refine lv_dup hx hb dX0_goBack_30 rfl ?_
      refine va_get (D := D) (v := .int hh.2.1) (C := RX0) (T := TX0) (N := 3) hx hb hts iw_X0 hown hK hP 0 rfl rfl 2 (by decide) (hts _ mw_21) (fun _ h9 => h9) rfl dX0_goBack_31 ?_
      refine lv_iconst (v := 1) hx hb dX0_goBack_34 (by decide) ?_
      refine lv_isub hx hb dX0_goBack_35 ?_
      refine va_put (D := D) (v := .int (hh.2.1 - (1 : Int32))) (ty := .int) (C := RX0) (T := TX0) (N := 3) hx hb hts iw_X0 tyX0 tyX0_ok nmX0 hown hK hP hD hS 0 rfl rfl 2 (by decide) (hts _ mw_21) (fun _ h9 => h9) rfl (by decide +kernel) rfl rfl (Nat.le_of_ble_eq_true rfl) dX0_goBack_36 (fun H locs hP hD hS => ?_)
      have hP : va_P D vwCl ((wH cI cT hs hst ta ca (H2 hh (hh.2.1 - (1 : Int32)))) ++ (wT cI o a x13)) H := hP
      have hD : va_D (va_A ((wH cI cT hs hst ta ca hh) ++ (wT cI o a t)) s.heap.size) ((wH cI cT hs hst ta ca (H2 hh (hh.2.1 - (1 : Int32)))) ++ (wT cI o a x13)) := hD
      refine lv_iconst (v := 1) hx hb dX0_goBack_39 (by decide) ?_
      cases h
      exact x_retM C0 narrow_b1 hP hD hS dX0_goBack_40
  have h := xf c11 h
  by_cases c15 : x1 = (3 : Int32)
  · have h := xt c15 h
    rw [c15, q_ref_3]
    refine lv_astore_n (lv' := [(2, .ref (ta 3)), (0, .ref hs), (1, .ref o)]) hx hb dX0_goBack_10 rfl hl (by decide) rfl (fun ls hl => ?_)
    refine lv_aload_n hx hb dX0_goBack_11 rfl (lv_at hl 1 rfl) ?_
    refine va_get (D := D) (v := .int hh.2.1) (C := RX0) (T := TX0) (N := 3) hx hb hts iw_X0 hown hK hP 0 rfl rfl 2 (by decide) (hts _ mw_21) (fun _ h9 => h9) rfl dX0_goBack_12 ?_
    refine lv_if_eq (tgt := 22) hx hb dX0_goBack_15 (by decide) (fun c16 => ?_) (fun c16 => ?_)
    · have h := xt c16 h
      refine lv_iconst (v := 0) hx hb dX0_goBack_22 (by decide) ?_
      cases h
      exact x_retM C0 narrow_b0 hP hD hS dX0_goBack_23
    · have h := xf c16 h
      refine lv_aload_n hx hb dX0_goBack_18 rfl (lv_at hl 0 rfl) ?_
      refine lv_ifnonnull (tgt := 24) hx hb dX0_goBack_19 (by decide) ?_
      refine lv_aload_n hx hb dX0_goBack_24 rfl (lv_at hl 2 rfl) ?_
      refine lv_aload_n hx hb dX0_goBack_25 rfl (lv_at hl 0 rfl) ?_
      obtain ⟨x17, h18, h⟩ := bE h
      refine x_VVN (As := [.ref (ta 3)]) (rest := []) (wr := (([0, 1, 2, 3, 4, 5, 6, 7, 10, 11, 12, 13, 14, 15] : List Nat).filterMap (fun i => ((wH cI cT hs hst ta ca hh) ++ (wT cI o a t))[i]?))) (W1 := (wH cI cT hs hst ta ca hh) ++ (wT cI o a x17)) hF (c_X2_become l D cI cZ cT _ o a t (ta 3) (ca 3) (hh.2.2 3)  x17 h18) ⟨(va_cnB 1 hts (gq mw_34) rfl rfl rfl (nM_of hE 1 rfl) (hts _ mw_15) hd_X2_become.2 ⟨Nat.le_of_ble_eq_true rfl, Nat.le_of_ble_eq_true rfl⟩), hts _ mw_45, hts _ mw_46⟩ hK hP hD hS hA q_T_bl (fun _ _ _ => trivial) [16, 17, 8, 9] [0, 1, 2, 3, 4, 5, 6, 7, 10, 11, 12, 13, 14, 15] [0, 1, 2, 3, 4, 5, 6, 7, 16, 17, 8, 9, 10, 11, 12, 13, 14, 15] rfl rfl ⟨rfl, rfl, rfl, rfl⟩ rfl rfl rfl rfl hl.1 rfl (Nat.le_of_ble_eq_true rfl) dX0_goBack_26 ⟨Nat.zero_le _, Nat.zero_le _⟩ (fun H locs hP hD hS => ?_)
      refine lv_aload_n hx hb dX0_goBack_29 rfl (lv_at hl 1 rfl) ?_
      refine lv_dup hx hb dX0_goBack_30 rfl ?_
      refine va_get (D := D) (v := .int hh.2.1) (C := RX0) (T := TX0) (N := 3) hx hb hts iw_X0 hown hK hP 0 rfl rfl 2 (by decide) (hts _ mw_21) (fun _ h9 => h9) rfl dX0_goBack_31 ?_
      refine lv_iconst (v := 1) hx hb dX0_goBack_34 (by decide) ?_
      refine lv_isub hx hb dX0_goBack_35 ?_
      refine va_put (D := D) (v := .int (hh.2.1 - (1 : Int32))) (ty := .int) (C := RX0) (T := TX0) (N := 3) hx hb hts iw_X0 tyX0 tyX0_ok nmX0 hown hK hP hD hS 0 rfl rfl 2 (by decide) (hts _ mw_21) (fun _ h9 => h9) rfl (by decide +kernel) rfl rfl (Nat.le_of_ble_eq_true rfl) dX0_goBack_36 (fun H locs hP hD hS => ?_)
      have hP : va_P D vwCl ((wH cI cT hs hst ta ca (H2 hh (hh.2.1 - (1 : Int32)))) ++ (wT cI o a x17)) H := hP
      have hD : va_D (va_A ((wH cI cT hs hst ta ca hh) ++ (wT cI o a t)) s.heap.size) ((wH cI cT hs hst ta ca (H2 hh (hh.2.1 - (1 : Int32)))) ++ (wT cI o a x17)) := hD
      refine lv_iconst (v := 1) hx hb dX0_goBack_39 (by decide) ?_
      cases h
      exact x_retM C0 narrow_b1 hP hD hS dX0_goBack_40
  have h := xf c15 h
  by_cases c19 : x1 = (4 : Int32)
  · have h := xt c19 h
    rw [c19, q_ref_4]
    refine lv_astore_n (lv' := [(2, .ref (ta 4)), (0, .ref hs), (1, .ref o)]) hx hb dX0_goBack_10 rfl hl (by decide) rfl (fun ls hl => ?_)
    refine lv_aload_n hx hb dX0_goBack_11 rfl (lv_at hl 1 rfl) ?_
    refine va_get (D := D) (v := .int hh.2.1) (C := RX0) (T := TX0) (N := 3) hx hb hts iw_X0 hown hK hP 0 rfl rfl 2 (by decide) (hts _ mw_21) (fun _ h9 => h9) rfl dX0_goBack_12 ?_
    refine lv_if_eq (tgt := 22) hx hb dX0_goBack_15 (by decide) (fun c20 => ?_) (fun c20 => ?_)
    · have h := xt c20 h
      refine lv_iconst (v := 0) hx hb dX0_goBack_22 (by decide) ?_
      cases h
      exact x_retM C0 narrow_b0 hP hD hS dX0_goBack_23
    · have h := xf c20 h
      refine lv_aload_n hx hb dX0_goBack_18 rfl (lv_at hl 0 rfl) ?_
      refine lv_ifnonnull (tgt := 24) hx hb dX0_goBack_19 (by decide) ?_
      refine lv_aload_n hx hb dX0_goBack_24 rfl (lv_at hl 2 rfl) ?_
      refine lv_aload_n hx hb dX0_goBack_25 rfl (lv_at hl 0 rfl) ?_
      obtain ⟨x21, h22, h⟩ := bE h
      refine x_VVN (As := [.ref (ta 4)]) (rest := []) (wr := (([0, 1, 2, 3, 4, 5, 6, 7, 8, 9, 12, 13, 14, 15] : List Nat).filterMap (fun i => ((wH cI cT hs hst ta ca hh) ++ (wT cI o a t))[i]?))) (W1 := (wH cI cT hs hst ta ca hh) ++ (wT cI o a x21)) hF (c_X2_become l D cI cZ cT _ o a t (ta 4) (ca 4) (hh.2.2 4)  x21 h22) ⟨(va_cnB 1 hts (gq mw_34) rfl rfl rfl (nM_of hE 1 rfl) (hts _ mw_15) hd_X2_become.2 ⟨Nat.le_of_ble_eq_true rfl, Nat.le_of_ble_eq_true rfl⟩), hts _ mw_45, hts _ mw_46⟩ hK hP hD hS hA q_T_bl (fun _ _ _ => trivial) [16, 17, 10, 11] [0, 1, 2, 3, 4, 5, 6, 7, 8, 9, 12, 13, 14, 15] [0, 1, 2, 3, 4, 5, 6, 7, 8, 9, 16, 17, 10, 11, 12, 13, 14, 15] rfl rfl ⟨rfl, rfl, rfl, rfl⟩ rfl rfl rfl rfl hl.1 rfl (Nat.le_of_ble_eq_true rfl) dX0_goBack_26 ⟨Nat.zero_le _, Nat.zero_le _⟩ (fun H locs hP hD hS => ?_)
      refine lv_aload_n hx hb dX0_goBack_29 rfl (lv_at hl 1 rfl) ?_
      refine lv_dup hx hb dX0_goBack_30 rfl ?_
      refine va_get (D := D) (v := .int hh.2.1) (C := RX0) (T := TX0) (N := 3) hx hb hts iw_X0 hown hK hP 0 rfl rfl 2 (by decide) (hts _ mw_21) (fun _ h9 => h9) rfl dX0_goBack_31 ?_
      refine lv_iconst (v := 1) hx hb dX0_goBack_34 (by decide) ?_
      refine lv_isub hx hb dX0_goBack_35 ?_
      refine va_put (D := D) (v := .int (hh.2.1 - (1 : Int32))) (ty := .int) (C := RX0) (T := TX0) (N := 3) hx hb hts iw_X0 tyX0 tyX0_ok nmX0 hown hK hP hD hS 0 rfl rfl 2 (by decide) (hts _ mw_21) (fun _ h9 => h9) rfl (by decide +kernel) rfl rfl (Nat.le_of_ble_eq_true rfl) dX0_goBack_36 (fun H locs hP hD hS => ?_)
      have hP : va_P D vwCl ((wH cI cT hs hst ta ca (H2 hh (hh.2.1 - (1 : Int32)))) ++ (wT cI o a x21)) H := hP
      have hD : va_D (va_A ((wH cI cT hs hst ta ca hh) ++ (wT cI o a t)) s.heap.size) ((wH cI cT hs hst ta ca (H2 hh (hh.2.1 - (1 : Int32)))) ++ (wT cI o a x21)) := hD
      refine lv_iconst (v := 1) hx hb dX0_goBack_39 (by decide) ?_
      cases h
      exact x_retM C0 narrow_b1 hP hD hS dX0_goBack_40
  have h := xf c19 h
  by_cases c23 : x1 = (5 : Int32)
  · have h := xt c23 h
    rw [c23, q_ref_5]
    refine lv_astore_n (lv' := [(2, .ref (ta 5)), (0, .ref hs), (1, .ref o)]) hx hb dX0_goBack_10 rfl hl (by decide) rfl (fun ls hl => ?_)
    refine lv_aload_n hx hb dX0_goBack_11 rfl (lv_at hl 1 rfl) ?_
    refine va_get (D := D) (v := .int hh.2.1) (C := RX0) (T := TX0) (N := 3) hx hb hts iw_X0 hown hK hP 0 rfl rfl 2 (by decide) (hts _ mw_21) (fun _ h9 => h9) rfl dX0_goBack_12 ?_
    refine lv_if_eq (tgt := 22) hx hb dX0_goBack_15 (by decide) (fun c24 => ?_) (fun c24 => ?_)
    · have h := xt c24 h
      refine lv_iconst (v := 0) hx hb dX0_goBack_22 (by decide) ?_
      cases h
      exact x_retM C0 narrow_b0 hP hD hS dX0_goBack_23
    · have h := xf c24 h
      refine lv_aload_n hx hb dX0_goBack_18 rfl (lv_at hl 0 rfl) ?_
      refine lv_ifnonnull (tgt := 24) hx hb dX0_goBack_19 (by decide) ?_
      refine lv_aload_n hx hb dX0_goBack_24 rfl (lv_at hl 2 rfl) ?_
      refine lv_aload_n hx hb dX0_goBack_25 rfl (lv_at hl 0 rfl) ?_
      obtain ⟨x25, h26, h⟩ := bE h
      refine x_VVN (As := [.ref (ta 5)]) (rest := []) (wr := (([0, 1, 2, 3, 4, 5, 6, 7, 8, 9, 10, 11, 14, 15] : List Nat).filterMap (fun i => ((wH cI cT hs hst ta ca hh) ++ (wT cI o a t))[i]?))) (W1 := (wH cI cT hs hst ta ca hh) ++ (wT cI o a x25)) hF (c_X2_become l D cI cZ cT _ o a t (ta 5) (ca 5) (hh.2.2 5)  x25 h26) ⟨(va_cnB 1 hts (gq mw_34) rfl rfl rfl (nM_of hE 1 rfl) (hts _ mw_15) hd_X2_become.2 ⟨Nat.le_of_ble_eq_true rfl, Nat.le_of_ble_eq_true rfl⟩), hts _ mw_45, hts _ mw_46⟩ hK hP hD hS hA q_T_bl (fun _ _ _ => trivial) [16, 17, 12, 13] [0, 1, 2, 3, 4, 5, 6, 7, 8, 9, 10, 11, 14, 15] [0, 1, 2, 3, 4, 5, 6, 7, 8, 9, 10, 11, 16, 17, 12, 13, 14, 15] rfl rfl ⟨rfl, rfl, rfl, rfl⟩ rfl rfl rfl rfl hl.1 rfl (Nat.le_of_ble_eq_true rfl) dX0_goBack_26 ⟨Nat.zero_le _, Nat.zero_le _⟩ (fun H locs hP hD hS => ?_)
      refine lv_aload_n hx hb dX0_goBack_29 rfl (lv_at hl 1 rfl) ?_
      refine lv_dup hx hb dX0_goBack_30 rfl ?_
      refine va_get (D := D) (v := .int hh.2.1) (C := RX0) (T := TX0) (N := 3) hx hb hts iw_X0 hown hK hP 0 rfl rfl 2 (by decide) (hts _ mw_21) (fun _ h9 => h9) rfl dX0_goBack_31 ?_
      refine lv_iconst (v := 1) hx hb dX0_goBack_34 (by decide) ?_
      refine lv_isub hx hb dX0_goBack_35 ?_
      refine va_put (D := D) (v := .int (hh.2.1 - (1 : Int32))) (ty := .int) (C := RX0) (T := TX0) (N := 3) hx hb hts iw_X0 tyX0 tyX0_ok nmX0 hown hK hP hD hS 0 rfl rfl 2 (by decide) (hts _ mw_21) (fun _ h9 => h9) rfl (by decide +kernel) rfl rfl (Nat.le_of_ble_eq_true rfl) dX0_goBack_36 (fun H locs hP hD hS => ?_)
      have hP : va_P D vwCl ((wH cI cT hs hst ta ca (H2 hh (hh.2.1 - (1 : Int32)))) ++ (wT cI o a x25)) H := hP
      have hD : va_D (va_A ((wH cI cT hs hst ta ca hh) ++ (wT cI o a t)) s.heap.size) ((wH cI cT hs hst ta ca (H2 hh (hh.2.1 - (1 : Int32)))) ++ (wT cI o a x25)) := hD
      refine lv_iconst (v := 1) hx hb dX0_goBack_39 (by decide) ?_
      cases h
      exact x_retM C0 narrow_b1 hP hD hS dX0_goBack_40
  have h := xf c23 h
  by_cases c27 : x1 = (6 : Int32)
  · have h := xt c27 h
    rw [c27, q_ref_6]
    refine lv_astore_n (lv' := [(2, .ref (ta 6)), (0, .ref hs), (1, .ref o)]) hx hb dX0_goBack_10 rfl hl (by decide) rfl (fun ls hl => ?_)
    refine lv_aload_n hx hb dX0_goBack_11 rfl (lv_at hl 1 rfl) ?_
    refine va_get (D := D) (v := .int hh.2.1) (C := RX0) (T := TX0) (N := 3) hx hb hts iw_X0 hown hK hP 0 rfl rfl 2 (by decide) (hts _ mw_21) (fun _ h9 => h9) rfl dX0_goBack_12 ?_
    refine lv_if_eq (tgt := 22) hx hb dX0_goBack_15 (by decide) (fun c28 => ?_) (fun c28 => ?_)
    · have h := xt c28 h
      refine lv_iconst (v := 0) hx hb dX0_goBack_22 (by decide) ?_
      cases h
      exact x_retM C0 narrow_b0 hP hD hS dX0_goBack_23
    · have h := xf c28 h
      refine lv_aload_n hx hb dX0_goBack_18 rfl (lv_at hl 0 rfl) ?_
      refine lv_ifnonnull (tgt := 24) hx hb dX0_goBack_19 (by decide) ?_
      refine lv_aload_n hx hb dX0_goBack_24 rfl (lv_at hl 2 rfl) ?_
      refine lv_aload_n hx hb dX0_goBack_25 rfl (lv_at hl 0 rfl) ?_
      obtain ⟨x29, h30, h⟩ := bE h
      refine x_VVN (As := [.ref (ta 6)]) (rest := []) (wr := (([0, 1, 2, 3, 4, 5, 6, 7, 8, 9, 10, 11, 12, 13] : List Nat).filterMap (fun i => ((wH cI cT hs hst ta ca hh) ++ (wT cI o a t))[i]?))) (W1 := (wH cI cT hs hst ta ca hh) ++ (wT cI o a x29)) hF (c_X2_become l D cI cZ cT _ o a t (ta 6) (ca 6) (hh.2.2 6)  x29 h30) ⟨(va_cnB 1 hts (gq mw_34) rfl rfl rfl (nM_of hE 1 rfl) (hts _ mw_15) hd_X2_become.2 ⟨Nat.le_of_ble_eq_true rfl, Nat.le_of_ble_eq_true rfl⟩), hts _ mw_45, hts _ mw_46⟩ hK hP hD hS hA q_T_bl (fun _ _ _ => trivial) [16, 17, 14, 15] [0, 1, 2, 3, 4, 5, 6, 7, 8, 9, 10, 11, 12, 13] [0, 1, 2, 3, 4, 5, 6, 7, 8, 9, 10, 11, 12, 13, 16, 17, 14, 15] rfl rfl ⟨rfl, rfl, rfl, rfl⟩ rfl rfl rfl rfl hl.1 rfl (Nat.le_of_ble_eq_true rfl) dX0_goBack_26 ⟨Nat.zero_le _, Nat.zero_le _⟩ (fun H locs hP hD hS => ?_)
      refine lv_aload_n hx hb dX0_goBack_29 rfl (lv_at hl 1 rfl) ?_
      refine lv_dup hx hb dX0_goBack_30 rfl ?_
      refine va_get (D := D) (v := .int hh.2.1) (C := RX0) (T := TX0) (N := 3) hx hb hts iw_X0 hown hK hP 0 rfl rfl 2 (by decide) (hts _ mw_21) (fun _ h9 => h9) rfl dX0_goBack_31 ?_
      refine lv_iconst (v := 1) hx hb dX0_goBack_34 (by decide) ?_
      refine lv_isub hx hb dX0_goBack_35 ?_
      refine va_put (D := D) (v := .int (hh.2.1 - (1 : Int32))) (ty := .int) (C := RX0) (T := TX0) (N := 3) hx hb hts iw_X0 tyX0 tyX0_ok nmX0 hown hK hP hD hS 0 rfl rfl 2 (by decide) (hts _ mw_21) (fun _ h9 => h9) rfl (by decide +kernel) rfl rfl (Nat.le_of_ble_eq_true rfl) dX0_goBack_36 (fun H locs hP hD hS => ?_)
      have hP : va_P D vwCl ((wH cI cT hs hst ta ca (H2 hh (hh.2.1 - (1 : Int32)))) ++ (wT cI o a x29)) H := hP
      have hD : va_D (va_A ((wH cI cT hs hst ta ca hh) ++ (wT cI o a t)) s.heap.size) ((wH cI cT hs hst ta ca (H2 hh (hh.2.1 - (1 : Int32)))) ++ (wT cI o a x29)) := hD
      refine lv_iconst (v := 1) hx hb dX0_goBack_39 (by decide) ?_
      cases h
      exact x_retM C0 narrow_b1 hP hD hS dX0_goBack_40
  have h := xf c27 h
  by_cases c31 : x1 = (-1 : Int32)
  · have h := xt c31 h
    rw [c31, q_ref_n]
    refine lv_astore_nN (lv' := [(2, .null), (0, .ref hs), (1, .ref o)]) hx hb dX0_goBack_10 rfl hl (by decide) rfl (fun ls hl => ?_)
    refine lv_aload_n hx hb dX0_goBack_11 rfl (lv_at hl 1 rfl) ?_
    refine va_get (D := D) (v := .int hh.2.1) (C := RX0) (T := TX0) (N := 3) hx hb hts iw_X0 hown hK hP 0 rfl rfl 2 (by decide) (hts _ mw_21) (fun _ h9 => h9) rfl dX0_goBack_12 ?_
    refine lv_if_eq (tgt := 22) hx hb dX0_goBack_15 (by decide) (fun c32 => ?_) (fun c32 => ?_)
    · have h := xt c32 h
      refine lv_iconst (v := 0) hx hb dX0_goBack_22 (by decide) ?_
      cases h
      exact x_retM C0 narrow_b0 hP hD hS dX0_goBack_23
    · have h := xf c32 h
      refine lv_aload_nN hx hb dX0_goBack_18 rfl (lv_at hl 0 rfl) ?_
      refine lv_ifnonnullN hx hb dX0_goBack_19 ?_
      refine lv_iconst (v := 0) hx hb dX0_goBack_22 (by decide) ?_
      cases h
      exact x_retM C0 narrow_b0 hP hD hS dX0_goBack_23
  have h := xf c31 h
  cases h

end G_HN

section G_S2
variable {p : Program} {l : Launch} {e : Env} {s : State} {m : MethodId} {args : Array Value} {below : List Frame} {meth : Method} {c : Code} {D : va_G} {cI cZ cT : ClassId}

/-! QuarrelWays.Town.changeSetting (II)I -/
def f_X2_changeSetting (t : TT) (a1 : Int32) (a2 : Int32) : Option (Int32 × TT) := (if a1 < 0 then some ((-2 : Int32), t) else (if (4 : Int32) ≤ a1 then some ((-2 : Int32), t) else (if a1 < (4 : Int32) then ((rd lowB 4 a1).bind fun x4 => (if a2 < x4 then some ((-2 : Int32), t) else ((rd highB 4 a1).bind fun x7 => (if a2 ≤ x7 then ((f_X2_read t (0 : Int32) a1).bind fun x10 => ((f_X2_write t (0 : Int32) a1 a2).bind fun x12 => some (x10, x12))) else some ((-2 : Int32), t))))) else some ((-2 : Int32), t))))
abbrev rm_X2_changeSetting : Room := { frames := 1, cells := 0, slots := 0, locals := 24 }
theorem hd_X2_changeSetting : yX2_changeSetting.cls = RX2 ∧ yX2_changeSetting.cls ≠ "java/lang/invoke/MethodHandle" ∧ yX2_changeSetting.cls ≠ "java/lang/invoke/VarHandle" ∧ (parseMethodDescriptor yX2_changeSetting.desc).map (fun d => d.parameters.length) = some 2 := by decide +kernel
set_option maxHeartbeats 4000000 in
set_option maxRecDepth 100000 in
theorem c_X2_changeSetting (l : Launch) (D : va_G) (cI cZ cT : ClassId) (G : q_G) (sz : Nat) (o a : Nat) (t : TT) (a1 : Int32) (a2 : Int32) (r : Int32 × TT) (h : f_X2_changeSetting t a1 a2 = some r) : Met l yX2_changeSetting (wq yX2_changeSetting cX2_changeSetting 4 (some .int)) rm_X2_changeSetting (q_M D (q_tys cI cZ cT) sz (wT cI o a t) (q_E G (va_A (wT cI o a t) sz)) [.ref o, .int a1, .int a2]) (va_Qi (fun r' _ => r' = r.1) (q_B D (wT cI o a t) sz (wT cI o a r.2)) (va_A (wT cI o a t) sz)) 0 0 (va_A (wT cI o a t) sz) := by
  refine q_MI (cc := cX2_changeSetting) (maxL := 4) (ret := (some .int)) (E := fun sz => (q_E G (va_A (wT cI o a t) sz))) (Qc := fun sz => (va_Qi (fun r' _ => r' = r.1) (q_B D (wT cI o a t) sz (wT cI o a r.2)) (va_A (wT cI o a t) sz))) (free := fun sz => va_A (wT cI o a t) sz) (plainFor_of_name (by decide)) (Nat.le_of_ble_eq_true rfl) (fun p e s m below meth c C0 hname hP hK hD hE ls hl => ?_)
  have hA : ∀ q, s.heap.size ≤ q → (va_A (wT cI o a t) s.heap.size) q := fun _ => Or.inr
  have hS : va_S (va_A (wT cI o a t) s.heap.size) s.heap s.heap [] := va_S.rf
  have hE : q_E G (va_A (wT cI o a t) s.heap.size) s := hE
  have hl : lv_has ls 4 [(0, .ref o), (1, .int a1), (2, .int a2)] := hl
  obtain ⟨hx, hb, hr, hml, hown, hts, hlocks⟩ := id C0
  have hF : CallFix p m c cX2_changeSetting 4 s _ BW RX2 := ⟨hx, hb, hml, hown, hts⟩
  rw [f_X2_changeSetting] at h
  refine lv_iload_n hx hb dX2_changeSetting_0 rfl (lv_at hl 1 rfl) ?_
  refine lv_if_lt (tgt := 20) hx hb dX2_changeSetting_1 (by decide) (fun c1 => ?_) (fun c1 => ?_)
  · have h := xt c1 h
    refine lv_bipush (v := (-2)) hx hb dX2_changeSetting_20 (by decide) ?_
    cases h
    exact x_retM C0 rfl hP hD hS dX2_changeSetting_22
  · have h := xf c1 h
    refine lv_iload_n hx hb dX2_changeSetting_4 rfl (lv_at hl 1 rfl) ?_
    refine va_gets (v := .ref G.2.2.1) hx hb hE.2.2.2.2.2.1.1 hS hown (hts _ mw_78) (fun _ h9 => h9) dX2_changeSetting_5 ?_
    refine va_tlen hx hb hE.2.2.2.2.2.1.2 hS (v := 4) rfl dX2_changeSetting_8 ?_
    refine lv_icmp_ge (tgt := 20) hx hb dX2_changeSetting_9 (by decide) (fun c2 => ?_) (fun c2 => ?_)
    · have h := xt c2 h
      refine lv_bipush (v := (-2)) hx hb dX2_changeSetting_20 (by decide) ?_
      cases h
      exact x_retM C0 rfl hP hD hS dX2_changeSetting_22
    · have h := xf c2 h
      refine lv_iload_n hx hb dX2_changeSetting_12 rfl (lv_at hl 1 rfl) ?_
      refine va_gets (v := .ref G.2.2.2) hx hb hE.2.2.2.2.2.2.1 hS hown (hts _ mw_79) (fun _ h9 => h9) dX2_changeSetting_13 ?_
      refine va_tlen hx hb hE.2.2.2.2.2.2.2 hS (v := 4) rfl dX2_changeSetting_16 ?_
      refine lv_icmp_lt (tgt := 23) hx hb dX2_changeSetting_17 (by decide) (fun c3 => ?_) (fun c3 => ?_)
      · have h := xt c3 h
        refine lv_iload_n hx hb dX2_changeSetting_23 rfl (lv_at hl 2 rfl) ?_
        refine va_gets (v := .ref G.2.2.1) hx hb hE.2.2.2.2.2.1.1 hS hown (hts _ mw_78) (fun _ h9 => h9) dX2_changeSetting_24 ?_
        refine lv_iload_n hx hb dX2_changeSetting_27 rfl (lv_at hl 1 rfl) ?_
        obtain ⟨x4, h5, h⟩ := bE h
        obtain ⟨hix4, ex4⟩ := rd_e h5
        refine va_ti hx hb hE.2.2.2.2.2.1.2 hS hix4 (v := .int x4) (congrArg Value.int ex4) dX2_changeSetting_28 ?_
        refine lv_icmp_lt (tgt := 41) hx hb dX2_changeSetting_29 (by decide) (fun c6 => ?_) (fun c6 => ?_)
        · have h := xt c6 h
          refine lv_bipush (v := (-2)) hx hb dX2_changeSetting_41 (by decide) ?_
          cases h
          exact x_retM C0 rfl hP hD hS dX2_changeSetting_43
        · have h := xf c6 h
          refine lv_iload_n hx hb dX2_changeSetting_32 rfl (lv_at hl 2 rfl) ?_
          refine va_gets (v := .ref G.2.2.2) hx hb hE.2.2.2.2.2.2.1 hS hown (hts _ mw_79) (fun _ h9 => h9) dX2_changeSetting_33 ?_
          refine lv_iload_n hx hb dX2_changeSetting_36 rfl (lv_at hl 1 rfl) ?_
          obtain ⟨x7, h8, h⟩ := bE h
          obtain ⟨hix7, ex7⟩ := rd_e h8
          refine va_ti hx hb hE.2.2.2.2.2.2.2 hS hix7 (v := .int x7) (congrArg Value.int ex7) dX2_changeSetting_37 ?_
          refine lv_icmp_le (tgt := 44) hx hb dX2_changeSetting_38 (by decide) (fun c9 => ?_) (fun c9 => ?_)
          · have h := xt c9 h
            refine lv_aload_n hx hb dX2_changeSetting_44 rfl (lv_at hl 0 rfl) ?_
            refine lv_iconst (v := 0) hx hb dX2_changeSetting_45 (by decide) ?_
            refine lv_iload_n hx hb dX2_changeSetting_46 rfl (lv_at hl 1 rfl) ?_
            obtain ⟨x10, h11, h⟩ := bE h
            refine x_RV (As := [.int (0 : Int32), .int a1]) (rest := []) hF (c_X2_read l D cI cZ cT o a t (0 : Int32) a1 x10 h11) (cwV 2 hts (gqV mw_65 mw_66 mw_67 mw_15 mw_61) rfl rfl rfl hd_X2_read ⟨Nat.le_of_ble_eq_true rfl, Nat.le_of_ble_eq_true rfl⟩) hK hP q_T_bl (fun _ _ _ => trivial) [0, 1] rfl rfl rfl rfl hl.1 rfl (Nat.le_of_ble_eq_true rfl) dX2_changeSetting_47 ⟨Nat.zero_le _, Nat.zero_le _⟩ ?_
            refine lv_istore_n (lv' := [(3, .int x10), (0, .ref o), (1, .int a1), (2, .int a2)]) hx hb dX2_changeSetting_50 rfl hl (by decide) rfl (fun ls hl => ?_)
            refine lv_aload_n hx hb dX2_changeSetting_51 rfl (lv_at hl 1 rfl) ?_
            refine lv_iconst (v := 0) hx hb dX2_changeSetting_52 (by decide) ?_
            refine lv_iload_n hx hb dX2_changeSetting_53 rfl (lv_at hl 2 rfl) ?_
            refine lv_iload_n hx hb dX2_changeSetting_54 rfl (lv_at hl 3 rfl) ?_
            obtain ⟨x12, h13, h⟩ := bE h
            refine x_VV (As := [.int (0 : Int32), .int a1, .int a2]) (rest := []) (wr := []) (W1 := wT cI o a x12) hF (c_X2_write l D cI cZ cT _ o a t (0 : Int32) a1 a2 x12 h13) (cwV 3 hts (gqV mw_12 mw_13 mw_14 mw_15 mw_0) rfl rfl rfl hd_X2_write ⟨Nat.le_of_ble_eq_true rfl, Nat.le_of_ble_eq_true rfl⟩) hK hP hD hS hA q_T_bl (fun _ _ _ => trivial) [0, 1] [] [0, 1] rfl rfl ⟨rfl, rfl, rfl, rfl⟩ rfl rfl rfl rfl hl.1 rfl (Nat.le_of_ble_eq_true rfl) dX2_changeSetting_55 ⟨Nat.zero_le _, Nat.zero_le _⟩ (fun H locs hP hD hS => ?_)
            refine lv_iload_n hx hb dX2_changeSetting_58 rfl (lv_at hl 0 rfl) ?_
            cases h
            exact x_retM C0 rfl hP hD hS dX2_changeSetting_59
          · have h := xf c9 h
            refine lv_bipush (v := (-2)) hx hb dX2_changeSetting_41 (by decide) ?_
            cases h
            exact x_retM C0 rfl hP hD hS dX2_changeSetting_43
      · have h := xf c3 h
        refine lv_bipush (v := (-2)) hx hb dX2_changeSetting_20 (by decide) ?_
        cases h
        exact x_retM C0 rfl hP hD hS dX2_changeSetting_22

/-! QuarrelWays.Town.become (LQuarrelWays$Town;)V -/
def f_X2_become (t : TT) (t2 : TT) : Option (TT) := some (T5 (T4 (T3 (T2 (T1 (T0 t t2.1) t2.2.1) t2.2.2.1) t2.2.2.2.1) t2.2.2.2.2.1) (va_cpy t2.2.2.2.2.2 ((T4 (T3 (T2 (T1 (T0 t t2.1) t2.2.1) t2.2.2.1) t2.2.2.2.1) t2.2.2.2.2.1).2.2.2.2.2) ((0 : Int32)).toNatClampNeg ((0 : Int32)).toNatClampNeg ((if (176 : Int32) < (176 : Int32) then (176 : Int32) else (176 : Int32))).toNatClampNeg))
abbrev rm_X2_become : Room := { frames := 1, cells := 0, slots := 0, locals := 64 }
theorem hd_X2_become : yX2_become.cls = RX2 ∧ yX2_become.cls ≠ "java/lang/invoke/MethodHandle" ∧ yX2_become.cls ≠ "java/lang/invoke/VarHandle" ∧ (parseMethodDescriptor yX2_become.desc).map (fun d => d.parameters.length) = some 1 := by decide +kernel
set_option maxHeartbeats 4000000 in
set_option maxRecDepth 100000 in
theorem c_X2_become (l : Launch) (D : va_G) (cI cZ cT : ClassId) (sz : Nat) (o a : Nat) (t : TT) (o2 a2 : Nat) (t2 : TT) (r : TT) (h : f_X2_become t t2 = some r) : Met l yX2_become (wq yX2_become cX2_become 2 none) rm_X2_become (q_M D (q_tys cI cZ cT) sz ((wT cI o a t) ++ (wT cI o2 a2 t2)) q_T [.ref o, .ref o2]) (va_Qv (fun _ => True) (q_B D ((wT cI o a t) ++ (wT cI o2 a2 t2)) sz ((wT cI o a r) ++ (wT cI o2 a2 t2))) (va_A ((wT cI o a t) ++ (wT cI o2 a2 t2)) sz)) 0 0 (va_A ((wT cI o a t) ++ (wT cI o2 a2 t2)) sz) := by
  refine q_MI (cc := cX2_become) (maxL := 2) (ret := none) (E := fun sz => q_T) (Qc := fun sz => (va_Qv (fun _ => True) (q_B D ((wT cI o a t) ++ (wT cI o2 a2 t2)) sz ((wT cI o a r) ++ (wT cI o2 a2 t2))) (va_A ((wT cI o a t) ++ (wT cI o2 a2 t2)) sz))) (free := fun sz => va_A ((wT cI o a t) ++ (wT cI o2 a2 t2)) sz) (plainFor_of_name (by decide)) (Nat.le_of_ble_eq_true rfl) (fun p e s m below meth c C0 hname hP hK hD hE ls hl => ?_)
  have hA : ∀ q, s.heap.size ≤ q → (va_A ((wT cI o a t) ++ (wT cI o2 a2 t2)) s.heap.size) q := fun _ => Or.inr
  have hS : va_S (va_A ((wT cI o a t) ++ (wT cI o2 a2 t2)) s.heap.size) s.heap s.heap [] := va_S.rf
  have hl : lv_has ls 2 [(0, .ref o), (1, .ref o2)] := hl
  obtain ⟨hx, hb, hr, hml, hown, hts, hlocks⟩ := id C0
  have hF : CallFix p m c cX2_become 2 s _ BW RX2 := ⟨hx, hb, hml, hown, hts⟩
  rw [f_X2_become] at h
  refine lv_aload_n hx hb dX2_become_0 rfl (lv_at hl 0 rfl) ?_
  refine lv_aload_n hx hb dX2_become_1 rfl (lv_at hl 1 rfl) ?_
  refine va_get (D := D) (v := .int t2.1) (C := RX2) (T := TX2) (N := 6) hx hb hts iw_X2 hown hK hP 2 rfl rfl 0 (by decide) (hts _ mw_6) (fun _ h9 => h9) rfl dX2_become_2 ?_
  refine va_put (D := D) (v := .int t2.1) (ty := .int) (C := RX2) (T := TX2) (N := 6) hx hb hts iw_X2 tyX2 tyX2_ok nmX2 hown hK hP hD hS 0 rfl rfl 0 (by decide) (hts _ mw_6) (fun _ h9 => h9) rfl (by decide +kernel) rfl rfl (Nat.le_of_ble_eq_true rfl) dX2_become_5 (fun H locs hP hD hS => ?_)
  have hP : va_P D vwCl ((wT cI o a (T0 t t2.1)) ++ (wT cI o2 a2 t2)) H := hP
  have hD : va_D (va_A ((wT cI o a t) ++ (wT cI o2 a2 t2)) s.heap.size) ((wT cI o a (T0 t t2.1)) ++ (wT cI o2 a2 t2)) := hD
  refine lv_aload_n hx hb dX2_become_8 rfl (lv_at hl 0 rfl) ?_
  refine lv_aload_n hx hb dX2_become_9 rfl (lv_at hl 1 rfl) ?_
  refine va_get (D := D) (v := .int t2.2.1) (C := RX2) (T := TX2) (N := 6) hx hb hts iw_X2 hown hK hP 2 rfl rfl 1 (by decide) (hts _ mw_7) (fun _ h9 => h9) rfl dX2_become_10 ?_
  refine va_put (D := D) (v := .int t2.2.1) (ty := .int) (C := RX2) (T := TX2) (N := 6) hx hb hts iw_X2 tyX2 tyX2_ok nmX2 hown hK hP hD hS 0 rfl rfl 1 (by decide) (hts _ mw_7) (fun _ h9 => h9) rfl (by decide +kernel) rfl rfl (Nat.le_of_ble_eq_true rfl) dX2_become_13 (fun H locs hP hD hS => ?_)
  have hP : va_P D vwCl ((wT cI o a (T1 (T0 t t2.1) t2.2.1)) ++ (wT cI o2 a2 t2)) H := hP
  have hD : va_D (va_A ((wT cI o a t) ++ (wT cI o2 a2 t2)) s.heap.size) ((wT cI o a (T1 (T0 t t2.1) t2.2.1)) ++ (wT cI o2 a2 t2)) := hD
  refine lv_aload_n hx hb dX2_become_16 rfl (lv_at hl 0 rfl) ?_
  refine lv_aload_n hx hb dX2_become_17 rfl (lv_at hl 1 rfl) ?_
  refine va_get (D := D) (v := .int t2.2.2.1) (C := RX2) (T := TX2) (N := 6) hx hb hts iw_X2 hown hK hP 2 rfl rfl 2 (by decide) (hts _ mw_8) (fun _ h9 => h9) rfl dX2_become_18 ?_
  refine va_put (D := D) (v := .int t2.2.2.1) (ty := .int) (C := RX2) (T := TX2) (N := 6) hx hb hts iw_X2 tyX2 tyX2_ok nmX2 hown hK hP hD hS 0 rfl rfl 2 (by decide) (hts _ mw_8) (fun _ h9 => h9) rfl (by decide +kernel) rfl rfl (Nat.le_of_ble_eq_true rfl) dX2_become_21 (fun H locs hP hD hS => ?_)
  have hP : va_P D vwCl ((wT cI o a (T2 (T1 (T0 t t2.1) t2.2.1) t2.2.2.1)) ++ (wT cI o2 a2 t2)) H := hP
  have hD : va_D (va_A ((wT cI o a t) ++ (wT cI o2 a2 t2)) s.heap.size) ((wT cI o a (T2 (T1 (T0 t t2.1) t2.2.1) t2.2.2.1)) ++ (wT cI o2 a2 t2)) := hD
  refine lv_aload_n hx hb dX2_become_24 rfl (lv_at hl 0 rfl) ?_
  refine lv_aload_n hx hb dX2_become_25 rfl (lv_at hl 1 rfl) ?_
  refine va_get (D := D) (v := .int t2.2.2.2.1) (C := RX2) (T := TX2) (N := 6) hx hb hts iw_X2 hown hK hP 2 rfl rfl 3 (by decide) (hts _ mw_9) (fun _ h9 => h9) rfl dX2_become_26 ?_
  refine va_put (D := D) (v := .int t2.2.2.2.1) (ty := .int) (C := RX2) (T := TX2) (N := 6) hx hb hts iw_X2 tyX2 tyX2_ok nmX2 hown hK hP hD hS 0 rfl rfl 3 (by decide) (hts _ mw_9) (fun _ h9 => h9) rfl (by decide +kernel) rfl rfl (Nat.le_of_ble_eq_true rfl) dX2_become_29 (fun H locs hP hD hS => ?_)
  have hP : va_P D vwCl ((wT cI o a (T3 (T2 (T1 (T0 t t2.1) t2.2.1) t2.2.2.1) t2.2.2.2.1)) ++ (wT cI o2 a2 t2)) H := hP
  have hD : va_D (va_A ((wT cI o a t) ++ (wT cI o2 a2 t2)) s.heap.size) ((wT cI o a (T3 (T2 (T1 (T0 t t2.1) t2.2.1) t2.2.2.1) t2.2.2.2.1)) ++ (wT cI o2 a2 t2)) := hD
  refine lv_aload_n hx hb dX2_become_32 rfl (lv_at hl 0 rfl) ?_
  refine lv_aload_n hx hb dX2_become_33 rfl (lv_at hl 1 rfl) ?_
  refine va_get (D := D) (v := .int t2.2.2.2.2.1) (C := RX2) (T := TX2) (N := 6) hx hb hts iw_X2 hown hK hP 2 rfl rfl 4 (by decide) (hts _ mw_10) (fun _ h9 => h9) rfl dX2_become_34 ?_
  refine va_put (D := D) (v := .int t2.2.2.2.2.1) (ty := .int) (C := RX2) (T := TX2) (N := 6) hx hb hts iw_X2 tyX2 tyX2_ok nmX2 hown hK hP hD hS 0 rfl rfl 4 (by decide) (hts _ mw_10) (fun _ h9 => h9) rfl (by decide +kernel) rfl rfl (Nat.le_of_ble_eq_true rfl) dX2_become_37 (fun H locs hP hD hS => ?_)
  have hP : va_P D vwCl ((wT cI o a (T4 (T3 (T2 (T1 (T0 t t2.1) t2.2.1) t2.2.2.1) t2.2.2.2.1) t2.2.2.2.2.1)) ++ (wT cI o2 a2 t2)) H := hP
  have hD : va_D (va_A ((wT cI o a t) ++ (wT cI o2 a2 t2)) s.heap.size) ((wT cI o a (T4 (T3 (T2 (T1 (T0 t t2.1) t2.2.1) t2.2.2.1) t2.2.2.2.1) t2.2.2.2.2.1)) ++ (wT cI o2 a2 t2)) := hD
  refine lv_aload_n hx hb dX2_become_40 rfl (lv_at hl 1 rfl) ?_
  refine va_get (D := D) (v := .ref a2) (C := RX2) (T := TX2) (N := 6) hx hb hts iw_X2 hown hK hP 2 rfl rfl 5 (by decide) (hts _ mw_1) (fun _ h9 => h9) rfl dX2_become_41 ?_
  refine lv_iconst (v := 0) hx hb dX2_become_44 (by decide) ?_
  refine lv_aload_n hx hb dX2_become_45 rfl (lv_at hl 0 rfl) ?_
  refine va_get (D := D) (v := .ref a) (C := RX2) (T := TX2) (N := 6) hx hb hts iw_X2 hown hK hP 0 rfl rfl 5 (by decide) (hts _ mw_1) (fun _ h9 => h9) rfl dX2_become_46 ?_
  refine lv_iconst (v := 0) hx hb dX2_become_49 (by decide) ?_
  refine lv_aload_n hx hb dX2_become_50 rfl (lv_at hl 1 rfl) ?_
  refine va_get (D := D) (v := .ref a2) (C := RX2) (T := TX2) (N := 6) hx hb hts iw_X2 hown hK hP 2 rfl rfl 5 (by decide) (hts _ mw_1) (fun _ h9 => h9) rfl dX2_become_51 ?_
  refine va_alen hx hb hK hP 3 0 rfl rfl (v := 176) rfl dX2_become_54 ?_
  refine lv_aload_n hx hb dX2_become_55 rfl (lv_at hl 0 rfl) ?_
  refine va_get (D := D) (v := .ref a) (C := RX2) (T := TX2) (N := 6) hx hb hts iw_X2 hown hK hP 0 rfl rfl 5 (by decide) (hts _ mw_1) (fun _ h9 => h9) rfl dX2_become_56 ?_
  refine va_alen hx hb hK hP 1 0 rfl rfl (v := 176) rfl dX2_become_59 ?_
  refine va_mmin hx hb (hml.trans hl.1.symm) hown (hts _ mw_35) (hts _ mw_36) (hts _ mw_28) (hts _ mw_37) (Nat.le_of_ble_eq_true rfl) (Nat.le_of_ble_eq_true rfl) (Nat.zero_le _) (Nat.zero_le _) dX2_become_60 ?_
  refine va_copyi (c0 := cI) (c1 := cI) hx hb (hml.trans hl.1.symm) hown (hts _ mw_38) (hts _ mw_39) (hts _ mw_40) (hts _ mw_41) hK hP hD hS 3 1 0 0 rfl rfl rfl rfl rfl (by decide) (by decide) (by decide) (by decide) (by decide) (fun _ _ => rfl) (Nat.le_of_ble_eq_true rfl) (by decide) dX2_become_63 (fun H locs hP hD hS => ?_)
  have hP : va_P D vwCl ((wT cI o a (T5 (T4 (T3 (T2 (T1 (T0 t t2.1) t2.2.1) t2.2.2.1) t2.2.2.2.1) t2.2.2.2.2.1) (va_cpy t2.2.2.2.2.2 ((T4 (T3 (T2 (T1 (T0 t t2.1) t2.2.1) t2.2.2.1) t2.2.2.2.1) t2.2.2.2.2.1).2.2.2.2.2) ((0 : Int32)).toNatClampNeg ((0 : Int32)).toNatClampNeg ((if (176 : Int32) < (176 : Int32) then (176 : Int32) else (176 : Int32))).toNatClampNeg))) ++ (wT cI o2 a2 t2)) H := hP
  have hD : va_D (va_A ((wT cI o a t) ++ (wT cI o2 a2 t2)) s.heap.size) ((wT cI o a (T5 (T4 (T3 (T2 (T1 (T0 t t2.1) t2.2.1) t2.2.2.1) t2.2.2.2.1) t2.2.2.2.2.1) (va_cpy t2.2.2.2.2.2 ((T4 (T3 (T2 (T1 (T0 t t2.1) t2.2.1) t2.2.2.1) t2.2.2.2.1) t2.2.2.2.2.1).2.2.2.2.2) ((0 : Int32)).toNatClampNeg ((0 : Int32)).toNatClampNeg ((if (176 : Int32) < (176 : Int32) then (176 : Int32) else (176 : Int32))).toNatClampNeg))) ++ (wT cI o2 a2 t2)) := hD
  cases h
  exact x_retV C0 hP hD hS dX2_become_66

end G_S2

section G_S2
variable {p : Program} {l : Launch} {e : Env} {s : State} {m : MethodId} {args : Array Value} {below : List Frame} {meth : Method} {c : Code} {D : va_G} {cI cZ cT : ClassId}

/-! QuarrelWays.Town.changeSetting (II)I -/
def f_X2_changeSetting (t : TT) (a1 : Int32) (a2 : Int32) : Option (Int32 × TT) := (if a1 < 0 then some ((-2 : Int32), t) else (if (4 : Int32) ≤ a1 then some ((-2 : Int32), t) else (if a1 < (4 : Int32) then ((rd lowB 4 a1).bind fun x4 => (if a2 < x4 then some ((-2 : Int32), t) else ((rd highB 4 a1).bind fun x7 => (if a2 ≤ x7 then ((f_X2_read t (0 : Int32) a1).bind fun x10 => ((f_X2_write t (0 : Int32) a1 a2).bind fun x12 => some (x10, x12))) else some ((-2 : Int32), t))))) else some ((-2 : Int32), t))))
abbrev rm_X2_changeSetting : Room := { frames := 1, cells := 0, slots := 0, locals := 24 }
theorem hd_X2_changeSetting : yX2_changeSetting.cls = RX2 ∧ yX2_changeSetting.cls ≠ "java/lang/invoke/MethodHandle" ∧ yX2_changeSetting.cls ≠ "java/lang/invoke/VarHandle" ∧ (parseMethodDescriptor yX2_changeSetting.desc).map (fun d => d.parameters.length) = some 2 := by decide +kernel
set_option maxHeartbeats 4000000 in
set_option maxRecDepth 100000 in
theorem c_X2_changeSetting (l : Launch) (D : va_G) (cI cZ cT : ClassId) (G : q_G) (sz : Nat) (o a : Nat) (t : TT) (a1 : Int32) (a2 : Int32) (r : Int32 × TT) (h : f_X2_changeSetting t a1 a2 = some r) : Met l yX2_changeSetting (wq yX2_changeSetting cX2_changeSetting 4 (some .int)) rm_X2_changeSetting (q_M D (q_tys cI cZ cT) sz (wT cI o a t) (q_E G (va_A (wT cI o a t) sz)) [.ref o, .int a1, .int a2]) (va_Qi (fun r' _ => r' = r.1) (q_B D (wT cI o a t) sz (wT cI o a r.2)) (va_A (wT cI o a t) sz)) 0 0 (va_A (wT cI o a t) sz) := by
  refine q_MI (cc := cX2_changeSetting) (maxL := 4) (ret := (some .int)) (E := fun sz => (q_E G (va_A (wT cI o a t) sz))) (Qc := fun sz => (va_Qi (fun r' _ => r' = r.1) (q_B D (wT cI o a t) sz (wT cI o a r.2)) (va_A (wT cI o a t) sz))) (free := fun sz => va_A (wT cI o a t) sz) (plainFor_of_name (by decide)) (Nat.le_of_ble_eq_true rfl) (fun p e s m below meth c C0 hname hP hK hD hE ls hl => ?_)
  have hA : ∀ q, s.heap.size ≤ q → (va_A (wT cI o a t) s.heap.size) q := fun _ => Or.inr
  have hS : va_S (va_A (wT cI o a t) s.heap.size) s.heap s.heap [] := va_S.rf
  have hE : q_E G (va_A (wT cI o a t) s.heap.size) s := hE
  have hl : lv_has ls 4 [(0, .ref o), (1, .int a1), (2, .int a2)] := hl
  obtain ⟨hx, hb, hr, hml, hown, hts, hlocks⟩ := id C0
  have hF : CallFix p m c cX2_changeSetting 4 s _ BW RX2 := ⟨hx, hb, hml, hown, hts⟩
  rw [f_X2_changeSetting] at h
  refine lv_iload_n hx hb dX2_changeSetting_0 rfl (lv_at hl 1 rfl) ?_
  refine lv_if_lt (tgt := 20) hx hb dX2_changeSetting_1 (by decide) (fun c1 => ?_) (fun c1 => ?_)
  · have h := xt c1 h
    refine lv_bipush (v := (-2)) hx hb dX2_changeSetting_20 (by decide) ?_
    cases h
    exact x_retM C0 rfl hP hD hS dX2_changeSetting_22
  · have h := xf c1 h
    refine lv_iload_n hx hb dX2_changeSetting_4 rfl (lv_at hl 1 rfl) ?_
    refine va_gets (v := .ref G.2.2.1) hx hb hE.2.2.2.2.2.1.1 hS hown (hts _ mw_170) (fun _ h9 => h9) dX2_changeSetting_5 ?_
    refine va_tlen hx hb hE.2.2.2.2.2.1.2 hS (v := 4) rfl dX2_changeSetting_8 ?_
    refine lv_icmp_ge (tgt := 20) hx hb dX2_changeSetting_9 (by decide) (fun c2 => ?_) (fun c2 => ?_)
    · have h := xt c2 h
      refine lv_bipush (v := (-2)) hx hb dX2_changeSetting_20 (by decide) ?_
      cases h
      exact x_retM C0 rfl hP hD hS dX2_changeSetting_22
    · have h := xf c2 h
      refine lv_iload_n hx hb dX2_changeSetting_12 rfl (lv_at hl 1 rfl) ?_
      refine va_gets (v := .ref G.2.2.2) hx hb hE.2.2.2.2.2.2.1 hS hown (hts _ mw_171) (fun _ h9 => h9) dX2_changeSetting_13 ?_
      refine va_tlen hx hb hE.2.2.2.2.2.2.2 hS (v := 4) rfl dX2_changeSetting_16 ?_
      refine lv_icmp_lt (tgt := 23) hx hb dX2_changeSetting_17 (by decide) (fun c3 => ?_) (fun c3 => ?_)
      · have h := xt c3 h
        refine lv_iload_n hx hb dX2_changeSetting_23 rfl (lv_at hl 2 rfl) ?_
        refine va_gets (v := .ref G.2.2.1) hx hb hE.2.2.2.2.2.1.1 hS hown (hts _ mw_170) (fun _ h9 => h9) dX2_changeSetting_24 ?_
        refine lv_iload_n hx hb dX2_changeSetting_27 rfl (lv_at hl 1 rfl) ?_
        obtain ⟨x4, h5, h⟩ := bE h
        obtain ⟨hix4, ex4⟩ := rd_e h5
        refine va_ti hx hb hE.2.2.2.2.2.1.2 hS hix4 (v := .int x4) (congrArg Value.int ex4) dX2_changeSetting_28 ?_
        refine lv_icmp_lt (tgt := 41) hx hb dX2_changeSetting_29 (by decide) (fun c6 => ?_) (fun c6 => ?_)
        · have h := xt c6 h
          refine lv_bipush (v := (-2)) hx hb dX2_changeSetting_41 (by decide) ?_
          cases h
          exact x_retM C0 rfl hP hD hS dX2_changeSetting_43
        · have h := xf c6 h
          refine lv_iload_n hx hb dX2_changeSetting_32 rfl (lv_at hl 2 rfl) ?_
          refine va_gets (v := .ref G.2.2.2) hx hb hE.2.2.2.2.2.2.1 hS hown (hts _ mw_171) (fun _ h9 => h9) dX2_changeSetting_33 ?_
          refine lv_iload_n hx hb dX2_changeSetting_36 rfl (lv_at hl 1 rfl) ?_
          obtain ⟨x7, h8, h⟩ := bE h
          obtain ⟨hix7, ex7⟩ := rd_e h8
          refine va_ti hx hb hE.2.2.2.2.2.2.2 hS hix7 (v := .int x7) (congrArg Value.int ex7) dX2_changeSetting_37 ?_
          refine lv_icmp_le (tgt := 44) hx hb dX2_changeSetting_38 (by decide) (fun c9 => ?_) (fun c9 => ?_)
          · have h := xt c9 h
            refine lv_aload_n hx hb dX2_changeSetting_44 rfl (lv_at hl 0 rfl) ?_
            refine lv_iconst (v := 0) hx hb dX2_changeSetting_45 (by decide) ?_
            refine lv_iload_n hx hb dX2_changeSetting_46 rfl (lv_at hl 1 rfl) ?_
            obtain ⟨x10, h11, h⟩ := bE h
            refine x_RV (As := [.int (0 : Int32), .int a1]) (rest := []) hF (c_X2_read l D cI cZ cT o a t (0 : Int32) a1 x10 h11) (cwV 2 hts (gqV mw_157 mw_158 mw_159 mw_15 mw_153) rfl rfl rfl hd_X2_read ⟨Nat.le_of_ble_eq_true rfl, Nat.le_of_ble_eq_true rfl⟩) hK hP q_T_bl (fun _ _ _ => trivial) [0, 1] rfl rfl rfl rfl hl.1 rfl (Nat.le_of_ble_eq_true rfl) dX2_changeSetting_47 ⟨Nat.zero_le _, Nat.zero_le _⟩ ?_
            refine lv_istore_n (lv' := [(3, .int x10), (0, .ref o), (1, .int a1), (2, .int a2)]) hx hb dX2_changeSetting_50 rfl hl (by decide) rfl (fun ls hl => ?_)
            refine lv_aload_n hx hb dX2_changeSetting_51 rfl (lv_at hl 1 rfl) ?_
            refine lv_iconst (v := 0) hx hb dX2_changeSetting_52 (by decide) ?_
            refine lv_iload_n hx hb dX2_changeSetting_53 rfl (lv_at hl 2 rfl) ?_
            refine lv_iload_n hx hb dX2_changeSetting_54 rfl (lv_at hl 3 rfl) ?_
            obtain ⟨x12, h13, h⟩ := bE h
            refine x_VV (As := [.int (0 : Int32), .int a1, .int a2]) (rest := []) (wr := []) (W1 := wT cI o a x12) hF (c_X2_write l D cI cZ cT _ o a t (0 : Int32) a1 a2 x12 h13) (cwV 3 hts (gqV mw_12 mw_13 mw_14 mw_15 mw_0) rfl rfl rfl hd_X2_write ⟨Nat.le_of_ble_eq_true rfl, Nat.le_of_ble_eq_true rfl⟩) hK hP hD hS hA q_T_bl (fun _ _ _ => trivial) [0, 1] [] [0, 1] rfl rfl ⟨rfl, rfl, rfl, rfl⟩ rfl rfl rfl rfl hl.1 rfl (Nat.le_of_ble_eq_true rfl) dX2_changeSetting_55 ⟨Nat.zero_le _, Nat.zero_le _⟩ (fun H locs hP hD hS => ?_)
            refine lv_iload_n hx hb dX2_changeSetting_58 rfl (lv_at hl 0 rfl) ?_
            cases h
            exact x_retM C0 rfl hP hD hS dX2_changeSetting_59
          · have h := xf c9 h
            refine lv_bipush (v := (-2)) hx hb dX2_changeSetting_41 (by decide) ?_
            cases h
            exact x_retM C0 rfl hP hD hS dX2_changeSetting_43
      · have h := xf c3 h
        refine lv_bipush (v := (-2)) hx hb dX2_changeSetting_20 (by decide) ?_
        cases h
        exact x_retM C0 rfl hP hD hS dX2_changeSetting_22

/-! QuarrelWays.Town.become (LQuarrelWays$Town;)V -/
def f_X2_become (t : TT) (t2 : TT) : Option (TT) := some (T5 (T4 (T3 (T2 (T1 (T0 t t2.1) t2.2.1) t2.2.2.1) t2.2.2.2.1) t2.2.2.2.2.1) (va_cpy t2.2.2.2.2.2 ((T4 (T3 (T2 (T1 (T0 t t2.1) t2.2.1) t2.2.2.1) t2.2.2.2.1) t2.2.2.2.2.1).2.2.2.2.2) ((0 : Int32)).toNatClampNeg ((0 : Int32)).toNatClampNeg ((if (176 : Int32) < (176 : Int32) then (176 : Int32) else (176 : Int32))).toNatClampNeg))
abbrev rm_X2_become : Room := { frames := 1, cells := 0, slots := 0, locals := 64 }
theorem hd_X2_become : yX2_become.cls = RX2 ∧ yX2_become.cls ≠ "java/lang/invoke/MethodHandle" ∧ yX2_become.cls ≠ "java/lang/invoke/VarHandle" ∧ (parseMethodDescriptor yX2_become.desc).map (fun d => d.parameters.length) = some 1 := by decide +kernel
set_option maxHeartbeats 4000000 in
set_option maxRecDepth 100000 in
theorem c_X2_become (l : Launch) (D : va_G) (cI cZ cT : ClassId) (sz : Nat) (o a : Nat) (t : TT) (o2 a2 : Nat) (t2 : TT) (r : TT) (h : f_X2_become t t2 = some r) : Met l yX2_become (wq yX2_become cX2_become 2 none) rm_X2_become (q_M D (q_tys cI cZ cT) sz ((wT cI o a t) ++ (wT cI o2 a2 t2)) q_T [.ref o, .ref o2]) (va_Qv (fun _ => True) (q_B D ((wT cI o a t) ++ (wT cI o2 a2 t2)) sz ((wT cI o a r) ++ (wT cI o2 a2 t2))) (va_A ((wT cI o a t) ++ (wT cI o2 a2 t2)) sz)) 0 0 (va_A ((wT cI o a t) ++ (wT cI o2 a2 t2)) sz) := by
  refine q_MI (cc := cX2_become) (maxL := 2) (ret := none) (E := fun sz => q_T) (Qc := fun sz => (va_Qv (fun _ => True) (q_B D ((wT cI o a t) ++ (wT cI o2 a2 t2)) sz ((wT cI o a r) ++ (wT cI o2 a2 t2))) (va_A ((wT cI o a t) ++ (wT cI o2 a2 t2)) sz))) (free := fun sz => va_A ((wT cI o a t) ++ (wT cI o2 a2 t2)) sz) (plainFor_of_name (by decide)) (Nat.le_of_ble_eq_true rfl) (fun p e s m below meth c C0 hname hP hK hD hE ls hl => ?_)
  have hA : ∀ q, s.heap.size ≤ q → (va_A ((wT cI o a t) ++ (wT cI o2 a2 t2)) s.heap.size) q := fun _ => Or.inr
  have hS : va_S (va_A ((wT cI o a t) ++ (wT cI o2 a2 t2)) s.heap.size) s.heap s.heap [] := va_S.rf
  have hl : lv_has ls 2 [(0, .ref o), (1, .ref o2)] := hl
  obtain ⟨hx, hb, hr, hml, hown, hts, hlocks⟩ := id C0
  have hF : CallFix p m c cX2_become 2 s _ BW RX2 := ⟨hx, hb, hml, hown, hts⟩
  rw [f_X2_become] at h
  refine lv_aload_n hx hb dX2_become_0 rfl (lv_at hl 0 rfl) ?_
  refine lv_aload_n hx hb dX2_become_1 rfl (lv_at hl 1 rfl) ?_
  refine va_get (D := D) (v := .int t2.1) (C := RX2) (T := TX2) (N := 6) hx hb hts iw_X2 hown hK hP 2 rfl rfl 0 (by decide) (hts _ mw_6) (fun _ h9 => h9) rfl dX2_become_2 ?_
  refine va_put (D := D) (v := .int t2.1) (ty := .int) (C := RX2) (T := TX2) (N := 6) hx hb hts iw_X2 tyX2 tyX2_ok nmX2 hown hK hP hD hS 0 rfl rfl 0 (by decide) (hts _ mw_6) (fun _ h9 => h9) rfl (by decide +kernel) rfl rfl (Nat.le_of_ble_eq_true rfl) dX2_become_5 (fun H locs hP hD hS => ?_)
  have hP : va_P D vwCl ((wT cI o a (T0 t t2.1)) ++ (wT cI o2 a2 t2)) H := hP
  have hD : va_D (va_A ((wT cI o a t) ++ (wT cI o2 a2 t2)) s.heap.size) ((wT cI o a (T0 t t2.1)) ++ (wT cI o2 a2 t2)) := hD
  refine lv_aload_n hx hb dX2_become_8 rfl (lv_at hl 0 rfl) ?_
  refine lv_aload_n hx hb dX2_become_9 rfl (lv_at hl 1 rfl) ?_
  refine va_get (D := D) (v := .int t2.2.1) (C := RX2) (T := TX2) (N := 6) hx hb hts iw_X2 hown hK hP 2 rfl rfl 1 (by decide) (hts _ mw_7) (fun _ h9 => h9) rfl dX2_become_10 ?_
  refine va_put (D := D) (v := .int t2.2.1) (ty := .int) (C := RX2) (T := TX2) (N := 6) hx hb hts iw_X2 tyX2 tyX2_ok nmX2 hown hK hP hD hS 0 rfl rfl 1 (by decide) (hts _ mw_7) (fun _ h9 => h9) rfl (by decide +kernel) rfl rfl (Nat.le_of_ble_eq_true rfl) dX2_become_13 (fun H locs hP hD hS => ?_)
  have hP : va_P D vwCl ((wT cI o a (T1 (T0 t t2.1) t2.2.1)) ++ (wT cI o2 a2 t2)) H := hP
  have hD : va_D (va_A ((wT cI o a t) ++ (wT cI o2 a2 t2)) s.heap.size) ((wT cI o a (T1 (T0 t t2.1) t2.2.1)) ++ (wT cI o2 a2 t2)) := hD
  refine lv_aload_n hx hb dX2_become_16 rfl (lv_at hl 0 rfl) ?_
  refine lv_aload_n hx hb dX2_become_17 rfl (lv_at hl 1 rfl) ?_
  refine va_get (D := D) (v := .int t2.2.2.1) (C := RX2) (T := TX2) (N := 6) hx hb hts iw_X2 hown hK hP 2 rfl rfl 2 (by decide) (hts _ mw_8) (fun _ h9 => h9) rfl dX2_become_18 ?_
  refine va_put (D := D) (v := .int t2.2.2.1) (ty := .int) (C := RX2) (T := TX2) (N := 6) hx hb hts iw_X2 tyX2 tyX2_ok nmX2 hown hK hP hD hS 0 rfl rfl 2 (by decide) (hts _ mw_8) (fun _ h9 => h9) rfl (by decide +kernel) rfl rfl (Nat.le_of_ble_eq_true rfl) dX2_become_21 (fun H locs hP hD hS => ?_)
  have hP : va_P D vwCl ((wT cI o a (T2 (T1 (T0 t t2.1) t2.2.1) t2.2.2.1)) ++ (wT cI o2 a2 t2)) H := hP
  have hD : va_D (va_A ((wT cI o a t) ++ (wT cI o2 a2 t2)) s.heap.size) ((wT cI o a (T2 (T1 (T0 t t2.1) t2.2.1) t2.2.2.1)) ++ (wT cI o2 a2 t2)) := hD
  refine lv_aload_n hx hb dX2_become_24 rfl (lv_at hl 0 rfl) ?_
  refine lv_aload_n hx hb dX2_become_25 rfl (lv_at hl 1 rfl) ?_
  refine va_get (D := D) (v := .int t2.2.2.2.1) (C := RX2) (T := TX2) (N := 6) hx hb hts iw_X2 hown hK hP 2 rfl rfl 3 (by decide) (hts _ mw_9) (fun _ h9 => h9) rfl dX2_become_26 ?_
  refine va_put (D := D) (v := .int t2.2.2.2.1) (ty := .int) (C := RX2) (T := TX2) (N := 6) hx hb hts iw_X2 tyX2 tyX2_ok nmX2 hown hK hP hD hS 0 rfl rfl 3 (by decide) (hts _ mw_9) (fun _ h9 => h9) rfl (by decide +kernel) rfl rfl (Nat.le_of_ble_eq_true rfl) dX2_become_29 (fun H locs hP hD hS => ?_)
  have hP : va_P D vwCl ((wT cI o a (T3 (T2 (T1 (T0 t t2.1) t2.2.1) t2.2.2.1) t2.2.2.2.1)) ++ (wT cI o2 a2 t2)) H := hP
  have hD : va_D (va_A ((wT cI o a t) ++ (wT cI o2 a2 t2)) s.heap.size) ((wT cI o a (T3 (T2 (T1 (T0 t t2.1) t2.2.1) t2.2.2.1) t2.2.2.2.1)) ++ (wT cI o2 a2 t2)) := hD
  refine lv_aload_n hx hb dX2_become_32 rfl (lv_at hl 0 rfl) ?_
  refine lv_aload_n hx hb dX2_become_33 rfl (lv_at hl 1 rfl) ?_
  refine va_get (D := D) (v := .int t2.2.2.2.2.1) (C := RX2) (T := TX2) (N := 6) hx hb hts iw_X2 hown hK hP 2 rfl rfl 4 (by decide) (hts _ mw_10) (fun _ h9 => h9) rfl dX2_become_34 ?_
  refine va_put (D := D) (v := .int t2.2.2.2.2.1) (ty := .int) (C := RX2) (T := TX2) (N := 6) hx hb hts iw_X2 tyX2 tyX2_ok nmX2 hown hK hP hD hS 0 rfl rfl 4 (by decide) (hts _ mw_10) (fun _ h9 => h9) rfl (by decide +kernel) rfl rfl (Nat.le_of_ble_eq_true rfl) dX2_become_37 (fun H locs hP hD hS => ?_)
  have hP : va_P D vwCl ((wT cI o a (T4 (T3 (T2 (T1 (T0 t t2.1) t2.2.1) t2.2.2.1) t2.2.2.2.1) t2.2.2.2.2.1)) ++ (wT cI o2 a2 t2)) H := hP
  have hD : va_D (va_A ((wT cI o a t) ++ (wT cI o2 a2 t2)) s.heap.size) ((wT cI o a (T4 (T3 (T2 (T1 (T0 t t2.1) t2.2.1) t2.2.2.1) t2.2.2.2.1) t2.2.2.2.2.1)) ++ (wT cI o2 a2 t2)) := hD
  refine lv_aload_n hx hb dX2_become_40 rfl (lv_at hl 1 rfl) ?_
  refine va_get (D := D) (v := .ref a2) (C := RX2) (T := TX2) (N := 6) hx hb hts iw_X2 hown hK hP 2 rfl rfl 5 (by decide) (hts _ mw_1) (fun _ h9 => h9) rfl dX2_become_41 ?_
  refine lv_iconst (v := 0) hx hb dX2_become_44 (by decide) ?_
  refine lv_aload_n hx hb dX2_become_45 rfl (lv_at hl 0 rfl) ?_
  refine va_get (D := D) (v := .ref a) (C := RX2) (T := TX2) (N := 6) hx hb hts iw_X2 hown hK hP 0 rfl rfl 5 (by decide) (hts _ mw_1) (fun _ h9 => h9) rfl dX2_become_46 ?_
  refine lv_iconst (v := 0) hx hb dX2_become_49 (by decide) ?_
  refine lv_aload_n hx hb dX2_become_50 rfl (lv_at hl 1 rfl) ?_
  refine va_get (D := D) (v := .ref a2) (C := RX2) (T := TX2) (N := 6) hx hb hts iw_X2 hown hK hP 2 rfl rfl 5 (by decide) (hts _ mw_1) (fun _ h9 => h9) rfl dX2_become_51 ?_
  refine va_alen hx hb hK hP 3 0 rfl rfl (v := 176) rfl dX2_become_54 ?_
  refine lv_aload_n hx hb dX2_become_55 rfl (lv_at hl 0 rfl) ?_
  refine va_get (D := D) (v := .ref a) (C := RX2) (T := TX2) (N := 6) hx hb hts iw_X2 hown hK hP 0 rfl rfl 5 (by decide) (hts _ mw_1) (fun _ h9 => h9) rfl dX2_become_56 ?_
  refine va_alen hx hb hK hP 1 0 rfl rfl (v := 176) rfl dX2_become_59 ?_
  refine va_mmin hx hb (hml.trans hl.1.symm) hown (hts _ mw_35) (hts _ mw_36) (hts _ mw_28) (hts _ mw_37) (Nat.le_of_ble_eq_true rfl) (Nat.le_of_ble_eq_true rfl) (Nat.zero_le _) (Nat.zero_le _) dX2_become_60 ?_
  refine va_copyi (c0 := cI) (c1 := cI) hx hb (hml.trans hl.1.symm) hown (hts _ mw_38) (hts _ mw_39) (hts _ mw_40) (hts _ mw_41) hK hP hD hS 3 1 0 0 rfl rfl rfl rfl rfl (by decide) (by decide) (by decide) (by decide) (by decide) (fun _ _ => rfl) (Nat.le_of_ble_eq_true rfl) (by decide) dX2_become_63 (fun H locs hP hD hS => ?_)
  have hP : va_P D vwCl ((wT cI o a (T5 (T4 (T3 (T2 (T1 (T0 t t2.1) t2.2.1) t2.2.2.1) t2.2.2.2.1) t2.2.2.2.2.1) (va_cpy t2.2.2.2.2.2 ((T4 (T3 (T2 (T1 (T0 t t2.1) t2.2.1) t2.2.2.1) t2.2.2.2.1) t2.2.2.2.2.1).2.2.2.2.2) ((0 : Int32)).toNatClampNeg ((0 : Int32)).toNatClampNeg ((if (176 : Int32) < (176 : Int32) then (176 : Int32) else (176 : Int32))).toNatClampNeg))) ++ (wT cI o2 a2 t2)) H := hP
  have hD : va_D (va_A ((wT cI o a t) ++ (wT cI o2 a2 t2)) s.heap.size) ((wT cI o a (T5 (T4 (T3 (T2 (T1 (T0 t t2.1) t2.2.1) t2.2.2.1) t2.2.2.2.1) t2.2.2.2.2.1) (va_cpy t2.2.2.2.2.2 ((T4 (T3 (T2 (T1 (T0 t t2.1) t2.2.1) t2.2.2.1) t2.2.2.2.1) t2.2.2.2.2.1).2.2.2.2.2) ((0 : Int32)).toNatClampNeg ((0 : Int32)).toNatClampNeg ((if (176 : Int32) < (176 : Int32) then (176 : Int32) else (176 : Int32))).toNatClampNeg))) ++ (wT cI o2 a2 t2)) := hD
  cases h
  exact x_retV C0 hP hD hS dX2_become_66

/-! QuarrelWays.Pad.signsIn (J)I -/
def f_X1_signsIn_L5 : Nat → Int64 → Int32 → Option (Int32)
  | 0, _, _ => none
  | n + 1, y2, y4 => (if (8 : Int32) ≤ y4 then (if (lg_cmp y2 (0 : Int64)) = 0 then some y4 else some (0 : Int32)) else (if (lg_cmp (y2 &&& (255 : Int64)) (0 : Int64)) = 0 then (if (lg_cmp y2 (0 : Int64)) = 0 then some y4 else some (0 : Int32)) else (if (lg_cmp (y2 &&& (255 : Int64)) (33 : Int64)) < 0 then some (0 : Int32) else (if (lg_cmp (y2 &&& (255 : Int64)) (126 : Int64)) ≤ 0 then f_X1_signsIn_L5 n ((y2.toUInt64 >>> ((8 : Int32).toInt64.toUInt64 &&& Int64.toUInt64 63)).toInt64) (y4 + (1 : Int32)) else some (0 : Int32)))))
def f_X1_signsIn (a0 : Int64) : Option (Int32) := f_X1_signsIn_L5 2000 a0 (0 : Int32)
abbrev rm_X1_signsIn : Room := { frames := 0, cells := 0, slots := 0, locals := 0 }
theorem hd_X1_signsIn : yX1_signsIn.cls = RX1 ∧ yX1_signsIn.cls ≠ "java/lang/invoke/MethodHandle" ∧ yX1_signsIn.cls ≠ "java/lang/invoke/VarHandle" ∧ (parseMethodDescriptor yX1_signsIn.desc).map (fun d => d.parameters.length) = some 1 := by decide +kernel
set_option maxHeartbeats 4000000 in
set_option maxRecDepth 100000 in
theorem k_X1_signsIn_L5 {r : Int32} (C0 : q_At p s m args meth c cX1_signsIn 5 (some .int) RX1) (hK : va_K D vwCl (q_tys cI cZ cT) s) (hP : va_P D vwCl ([]) s.heap) : ∀ (n : Nat) (y2 : Int64) (y4 : Int32) (ls : Array Slot), lv_has ls 5 [(2, .long y2), (4, .int y4)] → f_X1_signsIn_L5 n y2 y4 = some r → W p l e rm_X1_signsIn s m args below meth c s.heap [] 0 0 (q_QR below args s r) (F0 m 5 ls []) := by
  obtain ⟨hx, hb, hr, hml, hown, hts, hlocks⟩ := id C0
  have hF : CallFix p m c cX1_signsIn 5 s args BW RX1 := ⟨hx, hb, hml, hown, hts⟩
  intro n
  induction n with
  | zero =>
    intro y2 y4 ls hl h
    rw [f_X1_signsIn_L5] at h
    cases h
  | succ n ih =>
    intro y2 y4 ls hl h
    rw [f_X1_signsIn_L5] at h
    refine lv_iload hx hb dX1_signsIn_5 (lv_at hl 1 rfl) ?_
    refine lv_bipush (v := 8) hx hb dX1_signsIn_7 (by decide) ?_
    refine lv_icmp_ge (tgt := 59) hx hb dX1_signsIn_9 (by decide) (fun c1 => ?_) (fun c1 => ?_)
    · have h := xt c1 h
      refine lv_lload_n hx hb dX1_signsIn_59 rfl (lv_at hl 0 rfl) ?_
      refine lv_lconst (v := 0) hx hb dX1_signsIn_60 (by decide) ?_
      refine W.lcmp hx hb dX1_signsIn_61 ?_
      refine lv_if_ne (tgt := 70) hx hb dX1_signsIn_62 (by decide) (fun c2 => ?_) (fun c2 => ?_)
      · have h := xf c2 h
        refine lv_iconst (v := 0) hx hb dX1_signsIn_70 (by decide) ?_
        cases h
        exact x_retR C0 rfl dX1_signsIn_71
      · have h := xt c2 h
        refine lv_iload hx hb dX1_signsIn_65 (lv_at hl 1 rfl) ?_
        refine lv_goto (tgt := 71) hx hb dX1_signsIn_67 (by decide) ?_
        cases h
        exact x_retR C0 rfl dX1_signsIn_71
    · have h := xf c1 h
      refine lv_lload_n hx hb dX1_signsIn_12 rfl (lv_at hl 0 rfl) ?_
      refine lv_ldc2 (v := 255) hx hb hown (hts _ mw_62) dX1_signsIn_13 ?_
      refine lv_land hx hb dX1_signsIn_16 ?_
      refine lv_lconst (v := 0) hx hb dX1_signsIn_17 (by decide) ?_
      refine W.lcmp hx hb dX1_signsIn_18 ?_
      refine lv_if_eq (tgt := 59) hx hb dX1_signsIn_19 (by decide) (fun c3 => ?_) (fun c3 => ?_)
      · have h := xt c3 h
        refine lv_lload_n hx hb dX1_signsIn_59 rfl (lv_at hl 0 rfl) ?_
        refine lv_lconst (v := 0) hx hb dX1_signsIn_60 (by decide) ?_
        refine W.lcmp hx hb dX1_signsIn_61 ?_
        refine lv_if_ne (tgt := 70) hx hb dX1_signsIn_62 (by decide) (fun c4 => ?_) (fun c4 => ?_)
        · have h := xf c4 h
          refine lv_iconst (v := 0) hx hb dX1_signsIn_70 (by decide) ?_
          cases h
          exact x_retR C0 rfl dX1_signsIn_71
        · have h := xt c4 h
          refine lv_iload hx hb dX1_signsIn_65 (lv_at hl 1 rfl) ?_
          refine lv_goto (tgt := 71) hx hb dX1_signsIn_67 (by decide) ?_
          cases h
          exact x_retR C0 rfl dX1_signsIn_71
      · have h := xf c3 h
        refine lv_lload_n hx hb dX1_signsIn_22 rfl (lv_at hl 0 rfl) ?_
        refine lv_ldc2 (v := 255) hx hb hown (hts _ mw_62) dX1_signsIn_23 ?_
        refine lv_land hx hb dX1_signsIn_26 ?_
        refine lv_ldc2 (v := 33) hx hb hown (hts _ mw_63) dX1_signsIn_27 ?_
        refine W.lcmp hx hb dX1_signsIn_30 ?_
        refine lv_if_lt (tgt := 46) hx hb dX1_signsIn_31 (by decide) (fun c5 => ?_) (fun c5 => ?_)
        · have h := xt c5 h
          refine lv_iconst (v := 0) hx hb dX1_signsIn_46 (by decide) ?_
          cases h
          exact x_retR C0 rfl dX1_signsIn_47
        · have h := xf c5 h
          refine lv_lload_n hx hb dX1_signsIn_34 rfl (lv_at hl 0 rfl) ?_
          refine lv_ldc2 (v := 255) hx hb hown (hts _ mw_62) dX1_signsIn_35 ?_
          refine lv_land hx hb dX1_signsIn_38 ?_
          refine lv_ldc2 (v := 126) hx hb hown (hts _ mw_64) dX1_signsIn_39 ?_
          refine W.lcmp hx hb dX1_signsIn_42 ?_
          refine lv_if_le (tgt := 48) hx hb dX1_signsIn_43 (by decide) (fun c6 => ?_) (fun c6 => ?_)
          · have h := xt c6 h
            refine lv_lload_n hx hb dX1_signsIn_48 rfl (lv_at hl 0 rfl) ?_
            refine lv_bipush (v := 8) hx hb dX1_signsIn_49 (by decide) ?_
            refine lv_lushr hx hb dX1_signsIn_51 rfl ?_
            refine lv_lstore_n (lv' := [(2, .long ((y2.toUInt64 >>> ((8 : Int32).toInt64.toUInt64 &&& Int64.toUInt64 63)).toInt64)), (4, .int y4)]) hx hb dX1_signsIn_52 rfl hl (by decide) rfl (fun ls hl => ?_)
            refine lv_iinc (v := (y4 + (1 : Int32))) (lv' := [(4, .int (y4 + (1 : Int32))), (2, .long ((y2.toUInt64 >>> ((8 : Int32).toInt64.toUInt64 &&& Int64.toUInt64 63)).toInt64))]) hx hb dX1_signsIn_53 hl (k := 1) rfl rfl (by decide) rfl (fun ls hl => ?_)
            refine lv_goto (tgt := 5) hx hb dX1_signsIn_56 (by decide) ?_
            exact ih ((y2.toUInt64 >>> ((8 : Int32).toInt64.toUInt64 &&& Int64.toUInt64 63)).toInt64) (y4 + (1 : Int32)) _ (lv_sub hl [1, 0] rfl) h
          · have h := xf c6 h
            refine lv_iconst (v := 0) hx hb dX1_signsIn_46 (by decide) ?_
            cases h
            exact x_retR C0 rfl dX1_signsIn_47
set_option maxHeartbeats 4000000 in
set_option maxRecDepth 100000 in
theorem c_X1_signsIn (l : Launch) (D : va_G) (cI cZ cT : ClassId) (a0 : Int64) (r : Int32) (h : f_X1_signsIn a0 = some r) : Met l yX1_signsIn (wq yX1_signsIn cX1_signsIn 5 (some .int)) rm_X1_signsIn (q_R D (q_tys cI cZ cT) ([]) q_T [.long a0]) (vp_Si (fun r' => r' = r)) 0 0 (fun _ => False) := by
  refine q_RI (cc := cX1_signsIn) (maxL := 5) (ret := (some .int)) (plainFor_of_name (by decide)) (Nat.le_of_ble_eq_true rfl) (fun p e s m below meth c C0 hP hK hE ls hl => ?_)
  have hl : lv_has ls 5 [(0, .long a0)] := hl
  obtain ⟨hx, hb, hr, hml, hown, hts, hlocks⟩ := id C0
  have hF : CallFix p m c cX1_signsIn 5 s _ BW RX1 := ⟨hx, hb, hml, hown, hts⟩
  rw [f_X1_signsIn] at h
  refine lv_lload_n hx hb dX1_signsIn_0 rfl (lv_at hl 0 rfl) ?_
  refine lv_lstore_n (lv' := [(2, .long a0), (0, .long a0)]) hx hb dX1_signsIn_1 rfl hl (by decide) rfl (fun ls hl => ?_)
  refine lv_iconst (v := 0) hx hb dX1_signsIn_2 (by decide) ?_
  refine lv_istore (lv' := [(4, .int (0 : Int32)), (2, .long a0), (0, .long a0)]) hx hb dX1_signsIn_3 hl (by decide) rfl (fun ls hl => ?_)
  exact k_X1_signsIn_L5 C0 hK hP 2000 a0 (0 : Int32) _ (lv_sub hl [1, 0] rfl) h

/-! QuarrelWays.Pad.signAt (I)I -/
def f_X1_signAt (t : PP) (a1 : Int32) : Option (Int32) := (if a1 < 0 then some (0 : Int32) else (if t.2.1 ≤ a1 then some (0 : Int32) else (if (80 : Int32) ≤ a1 then some (0 : Int32) else ((rd t.1 80 a1).bind fun x4 => some x4))))
abbrev rm_X1_signAt : Room := { frames := 0, cells := 0, slots := 0, locals := 0 }
theorem hd_X1_signAt : yX1_signAt.cls = RX1 ∧ yX1_signAt.cls ≠ "java/lang/invoke/MethodHandle" ∧ yX1_signAt.cls ≠ "java/lang/invoke/VarHandle" ∧ (parseMethodDescriptor yX1_signAt.desc).map (fun d => d.parameters.length) = some 1 := by decide +kernel
set_option maxHeartbeats 4000000 in
set_option maxRecDepth 100000 in
theorem c_X1_signAt (l : Launch) (D : va_G) (cI cZ cT : ClassId) (o sg nm : Nat) (t : PP) (a1 : Int32) (r : Int32) (h : f_X1_signAt t a1 = some r) : Met l yX1_signAt (wq yX1_signAt cX1_signAt 2 (some .int)) rm_X1_signAt (q_R D (q_tys cI cZ cT) (wPd cI o sg nm t) q_T [.ref o, .int a1]) (vp_Si (fun r' => r' = r)) 0 0 (fun _ => False) := by
  refine q_RI (cc := cX1_signAt) (maxL := 2) (ret := (some .int)) (plainFor_of_name (by decide)) (Nat.le_of_ble_eq_true rfl) (fun p e s m below meth c C0 hP hK hE ls hl => ?_)
  have hl : lv_has ls 2 [(0, .ref o), (1, .int a1)] := hl
  obtain ⟨hx, hb, hr, hml, hown, hts, hlocks⟩ := id C0
  have hF : CallFix p m c cX1_signAt 2 s _ BW RX1 := ⟨hx, hb, hml, hown, hts⟩
  rw [f_X1_signAt] at h
  refine lv_iload_n hx hb dX1_signAt_0 rfl (lv_at hl 1 rfl) ?_
  refine lv_if_lt (tgt := 30) hx hb dX1_signAt_1 (by decide) (fun c1 => ?_) (fun c1 => ?_)
  · have h := xt c1 h
    refine lv_iconst (v := 0) hx hb dX1_signAt_30 (by decide) ?_
    cases h
    exact x_retR C0 rfl dX1_signAt_31
  · have h := xf c1 h
    refine lv_iload_n hx hb dX1_signAt_4 rfl (lv_at hl 1 rfl) ?_
    refine lv_aload_n hx hb dX1_signAt_5 rfl (lv_at hl 0 rfl) ?_
    refine va_get (D := D) (v := .int t.2.1) (C := RX1) (T := TX1) (N := 6) hx hb hts iw_X1 hown hK hP 0 rfl rfl 1 (by decide) (hts _ mw_56) (fun _ h9 => h9) rfl dX1_signAt_6 ?_
    refine lv_icmp_ge (tgt := 30) hx hb dX1_signAt_9 (by decide) (fun c2 => ?_) (fun c2 => ?_)
    · have h := xt c2 h
      refine lv_iconst (v := 0) hx hb dX1_signAt_30 (by decide) ?_
      cases h
      exact x_retR C0 rfl dX1_signAt_31
    · have h := xf c2 h
      refine lv_iload_n hx hb dX1_signAt_12 rfl (lv_at hl 1 rfl) ?_
      refine lv_aload_n hx hb dX1_signAt_13 rfl (lv_at hl 0 rfl) ?_
      refine va_get (D := D) (v := .ref sg) (C := RX1) (T := TX1) (N := 6) hx hb hts iw_X1 hown hK hP 0 rfl rfl 0 (by decide) (hts _ mw_55) (fun _ h9 => h9) rfl dX1_signAt_14 ?_
      refine va_alen hx hb hK hP 1 0 rfl rfl (v := 80) rfl dX1_signAt_17 ?_
      refine lv_icmp_ge (tgt := 30) hx hb dX1_signAt_18 (by decide) (fun c3 => ?_) (fun c3 => ?_)
      · have h := xt c3 h
        refine lv_iconst (v := 0) hx hb dX1_signAt_30 (by decide) ?_
        cases h
        exact x_retR C0 rfl dX1_signAt_31
      · have h := xf c3 h
        refine lv_aload_n hx hb dX1_signAt_21 rfl (lv_at hl 0 rfl) ?_
        refine va_get (D := D) (v := .ref sg) (C := RX1) (T := TX1) (N := 6) hx hb hts iw_X1 hown hK hP 0 rfl rfl 0 (by decide) (hts _ mw_55) (fun _ h9 => h9) rfl dX1_signAt_22 ?_
        refine lv_iload_n hx hb dX1_signAt_25 rfl (lv_at hl 1 rfl) ?_
        obtain ⟨x4, h5, h⟩ := bE h
        refine x_iald (cA := cI) hx hb hK hP 1 0 rfl rfl h5 dX1_signAt_26 ?_
        refine lv_goto (tgt := 31) hx hb dX1_signAt_27 (by decide) ?_
        cases h
        exact x_retR C0 rfl dX1_signAt_31

/-! QuarrelWays.Pad.number (I)I -/
def f_X1_number (t : PP) (a1 : Int32) : Option (Int32) := (if a1 < 0 then some (0 : Int32) else (if t.2.2.2.2.2 ≤ a1 then some (0 : Int32) else (if (3 : Int32) ≤ a1 then some (0 : Int32) else ((rd t.2.2.2.2.1 3 a1).bind fun x4 => some x4))))
abbrev rm_X1_number : Room := { frames := 0, cells := 0, slots := 0, locals := 0 }
theorem hd_X1_number : yX1_number.cls = RX1 ∧ yX1_number.cls ≠ "java/lang/invoke/MethodHandle" ∧ yX1_number.cls ≠ "java/lang/invoke/VarHandle" ∧ (parseMethodDescriptor yX1_number.desc).map (fun d => d.parameters.length) = some 1 := by decide +kernel
set_option maxHeartbeats 4000000 in
set_option maxRecDepth 100000 in
theorem c_X1_number (l : Launch) (D : va_G) (cI cZ cT : ClassId) (o sg nm : Nat) (t : PP) (a1 : Int32) (r : Int32) (h : f_X1_number t a1 = some r) : Met l yX1_number (wq yX1_number cX1_number 2 (some .int)) rm_X1_number (q_R D (q_tys cI cZ cT) (wPd cI o sg nm t) q_T [.ref o, .int a1]) (vp_Si (fun r' => r' = r)) 0 0 (fun _ => False) := by
  refine q_RI (cc := cX1_number) (maxL := 2) (ret := (some .int)) (plainFor_of_name (by decide)) (Nat.le_of_ble_eq_true rfl) (fun p e s m below meth c C0 hP hK hE ls hl => ?_)
  have hl : lv_has ls 2 [(0, .ref o), (1, .int a1)] := hl
  obtain ⟨hx, hb, hr, hml, hown, hts, hlocks⟩ := id C0
  have hF : CallFix p m c cX1_number 2 s _ BW RX1 := ⟨hx, hb, hml, hown, hts⟩
  rw [f_X1_number] at h
  refine lv_iload_n hx hb dX1_number_0 rfl (lv_at hl 1 rfl) ?_
  refine lv_if_lt (tgt := 30) hx hb dX1_number_1 (by decide) (fun c1 => ?_) (fun c1 => ?_)
  · have h := xt c1 h
    refine lv_iconst (v := 0) hx hb dX1_number_30 (by decide) ?_
    cases h
    exact x_retR C0 rfl dX1_number_31
  · have h := xf c1 h
    refine lv_iload_n hx hb dX1_number_4 rfl (lv_at hl 1 rfl) ?_
    refine lv_aload_n hx hb dX1_number_5 rfl (lv_at hl 0 rfl) ?_
    refine va_get (D := D) (v := .int t.2.2.2.2.2) (C := RX1) (T := TX1) (N := 6) hx hb hts iw_X1 hown hK hP 0 rfl rfl 5 (by decide) (hts _ mw_60) (fun _ h9 => h9) rfl dX1_number_6 ?_
    refine lv_icmp_ge (tgt := 30) hx hb dX1_number_9 (by decide) (fun c2 => ?_) (fun c2 => ?_)
    · have h := xt c2 h
      refine lv_iconst (v := 0) hx hb dX1_number_30 (by decide) ?_
      cases h
      exact x_retR C0 rfl dX1_number_31
    · have h := xf c2 h
      refine lv_iload_n hx hb dX1_number_12 rfl (lv_at hl 1 rfl) ?_
      refine lv_aload_n hx hb dX1_number_13 rfl (lv_at hl 0 rfl) ?_
      refine va_get (D := D) (v := .ref nm) (C := RX1) (T := TX1) (N := 6) hx hb hts iw_X1 hown hK hP 0 rfl rfl 4 (by decide) (hts _ mw_59) (fun _ h9 => h9) rfl dX1_number_14 ?_
      refine va_alen hx hb hK hP 2 0 rfl rfl (v := 3) rfl dX1_number_17 ?_
      refine lv_icmp_ge (tgt := 30) hx hb dX1_number_18 (by decide) (fun c3 => ?_) (fun c3 => ?_)
      · have h := xt c3 h
        refine lv_iconst (v := 0) hx hb dX1_number_30 (by decide) ?_
        cases h
        exact x_retR C0 rfl dX1_number_31
      · have h := xf c3 h
        refine lv_aload_n hx hb dX1_number_21 rfl (lv_at hl 0 rfl) ?_
        refine va_get (D := D) (v := .ref nm) (C := RX1) (T := TX1) (N := 6) hx hb hts iw_X1 hown hK hP 0 rfl rfl 4 (by decide) (hts _ mw_59) (fun _ h9 => h9) rfl dX1_number_22 ?_
        refine lv_iload_n hx hb dX1_number_25 rfl (lv_at hl 1 rfl) ?_
        obtain ⟨x4, h5, h⟩ := bE h
        refine x_iald (cA := cI) hx hb hK hP 2 0 rfl rfl h5 dX1_number_26 ?_
        refine lv_goto (tgt := 31) hx hb dX1_number_27 (by decide) ?_
        cases h
        exact x_retR C0 rfl dX1_number_31

/-! QuarrelWays.Pad.isDigit (I)Z -/
def f_X1_isDigit (a0 : Int32) : Option (Int32) := (if a0 < (48 : Int32) then some (0 : Int32) else (if (57 : Int32) < a0 then some (0 : Int32) else some (1 : Int32)))
abbrev rm_X1_isDigit : Room := { frames := 0, cells := 0, slots := 0, locals := 0 }
theorem hd_X1_isDigit : yX1_isDigit.cls = RX1 ∧ yX1_isDigit.cls ≠ "java/lang/invoke/MethodHandle" ∧ yX1_isDigit.cls ≠ "java/lang/invoke/VarHandle" ∧ (parseMethodDescriptor yX1_isDigit.desc).map (fun d => d.parameters.length) = some 1 := by decide +kernel
set_option maxHeartbeats 4000000 in
set_option maxRecDepth 100000 in
theorem c_X1_isDigit (l : Launch) (D : va_G) (cI cZ cT : ClassId) (a0 : Int32) (r : Int32) (h : f_X1_isDigit a0 = some r) : Met l yX1_isDigit (wq yX1_isDigit cX1_isDigit 1 (some .boolean)) rm_X1_isDigit (q_R D (q_tys cI cZ cT) ([]) q_T [.int a0]) (vp_Si (fun r' => r' = r)) 0 0 (fun _ => False) := by
  refine q_RI (cc := cX1_isDigit) (maxL := 1) (ret := (some .boolean)) (plainFor_of_name (by decide)) (Nat.le_of_ble_eq_true rfl) (fun p e s m below meth c C0 hP hK hE ls hl => ?_)
  have hl : lv_has ls 1 [(0, .int a0)] := hl
  obtain ⟨hx, hb, hr, hml, hown, hts, hlocks⟩ := id C0
  have hF : CallFix p m c cX1_isDigit 1 s _ BW RX1 := ⟨hx, hb, hml, hown, hts⟩
  rw [f_X1_isDigit] at h
  refine lv_iload_n hx hb dX1_isDigit_0 rfl (lv_at hl 0 rfl) ?_
  refine lv_bipush (v := 48) hx hb dX1_isDigit_1 (by decide) ?_
  refine lv_icmp_lt (tgt := 16) hx hb dX1_isDigit_3 (by decide) (fun c1 => ?_) (fun c1 => ?_)
  · have h := xt c1 h
    refine lv_iconst (v := 0) hx hb dX1_isDigit_16 (by decide) ?_
    cases h
    exact x_retR C0 rfl dX1_isDigit_17
  · have h := xf c1 h
    refine lv_iload_n hx hb dX1_isDigit_6 rfl (lv_at hl 0 rfl) ?_
    refine lv_bipush (v := 57) hx hb dX1_isDigit_7 (by decide) ?_
    refine lv_icmp_gt (tgt := 16) hx hb dX1_isDigit_9 (by decide) (fun c2 => ?_) (fun c2 => ?_)
    · have h := xt c2 h
      refine lv_iconst (v := 0) hx hb dX1_isDigit_16 (by decide) ?_
      cases h
      exact x_retR C0 rfl dX1_isDigit_17
    · have h := xf c2 h
      refine lv_iconst (v := 1) hx hb dX1_isDigit_12 (by decide) ?_
      refine lv_goto (tgt := 17) hx hb dX1_isDigit_13 (by decide) ?_
      cases h
      exact x_retR C0 rfl dX1_isDigit_17

/-! QuarrelWays.Pad.addSign (I)V -/
def f_X1_addSign (t : PP) (a1 : Int32) : Option (PP) := (if t.2.1 < 0 then some t else (if (80 : Int32) ≤ t.2.1 then some t else ((wr t.1 80 t.2.1 a1).bind fun g3 => some (P1 (P0 t g3) ((P0 t g3).2.1 + (1 : Int32))))))
abbrev rm_X1_addSign : Room := { frames := 0, cells := 0, slots := 0, locals := 0 }
theorem hd_X1_addSign : yX1_addSign.cls = RX1 ∧ yX1_addSign.cls ≠ "java/lang/invoke/MethodHandle" ∧ yX1_addSign.cls ≠ "java/lang/invoke/VarHandle" ∧ (parseMethodDescriptor yX1_addSign.desc).map (fun d => d.parameters.length) = some 1 := by decide +kernel
set_option maxHeartbeats 4000000 in
set_option maxRecDepth 100000 in
theorem c_X1_addSign (l : Launch) (D : va_G) (cI cZ cT : ClassId) (sz : Nat) (o sg nm : Nat) (t : PP) (a1 : Int32) (r : PP) (h : f_X1_addSign t a1 = some r) : Met l yX1_addSign (wq yX1_addSign cX1_addSign 2 none) rm_X1_addSign (q_M D (q_tys cI cZ cT) sz (wPd cI o sg nm t) q_T [.ref o, .int a1]) (va_Qv (fun _ => True) (q_B D (wPd cI o sg nm t) sz (wPd cI o sg nm r)) (va_A (wPd cI o sg nm t) sz)) 0 0 (va_A (wPd cI o sg nm t) sz) := by
  refine q_MI (cc := cX1_addSign) (maxL := 2) (ret := none) (E := fun sz => q_T) (Qc := fun sz => (va_Qv (fun _ => True) (q_B D (wPd cI o sg nm t) sz (wPd cI o sg nm r)) (va_A (wPd cI o sg nm t) sz))) (free := fun sz => va_A (wPd cI o sg nm t) sz) (plainFor_of_name (by decide)) (Nat.le_of_ble_eq_true rfl) (fun p e s m below meth c C0 hname hP hK hD hE ls hl => ?_)
  have hA : ∀ q, s.heap.size ≤ q → (va_A (wPd cI o sg nm t) s.heap.size) q := fun _ => Or.inr
  have hS : va_S (va_A (wPd cI o sg nm t) s.heap.size) s.heap s.heap [] := va_S.rf
  have hl : lv_has ls 2 [(0, .ref o), (1, .int a1)] := hl
  obtain ⟨hx, hb, hr, hml, hown, hts, hlocks⟩ := id C0
  have hF : CallFix p m c cX1_addSign 2 s _ BW RX1 := ⟨hx, hb, hml, hown, hts⟩
  rw [f_X1_addSign] at h
  refine lv_aload_n hx hb dX1_addSign_0 rfl (lv_at hl 0 rfl) ?_
  refine va_get (D := D) (v := .int t.2.1) (C := RX1) (T := TX1) (N := 6) hx hb hts iw_X1 hown hK hP 0 rfl rfl 1 (by decide) (hts _ mw_56) (fun _ h9 => h9) rfl dX1_addSign_1 ?_
  refine lv_if_lt (tgt := 39) hx hb dX1_addSign_4 (by decide) (fun c1 => ?_) (fun c1 => ?_)
  · have h := xt c1 h
    cases h
    exact x_retV C0 hP hD hS dX1_addSign_39
  · have h := xf c1 h
    refine lv_aload_n hx hb dX1_addSign_7 rfl (lv_at hl 0 rfl) ?_
    refine va_get (D := D) (v := .int t.2.1) (C := RX1) (T := TX1) (N := 6) hx hb hts iw_X1 hown hK hP 0 rfl rfl 1 (by decide) (hts _ mw_56) (fun _ h9 => h9) rfl dX1_addSign_8 ?_
    refine lv_aload_n hx hb dX1_addSign_11 rfl (lv_at hl 0 rfl) ?_
    refine va_get (D := D) (v := .ref sg) (C := RX1) (T := TX1) (N := 6) hx hb hts iw_X1 hown hK hP 0 rfl rfl 0 (by decide) (hts _ mw_55) (fun _ h9 => h9) rfl dX1_addSign_12 ?_
    refine va_alen hx hb hK hP 1 0 rfl rfl (v := 80) rfl dX1_addSign_15 ?_
    refine lv_icmp_ge (tgt := 39) hx hb dX1_addSign_16 (by decide) (fun c2 => ?_) (fun c2 => ?_)
    · have h := xt c2 h
      cases h
      exact x_retV C0 hP hD hS dX1_addSign_39
    · have h := xf c2 h
      refine lv_aload_n hx hb dX1_addSign_19 rfl (lv_at hl 0 rfl) ?_
      refine va_get (D := D) (v := .ref sg) (C := RX1) (T := TX1) (N := 6) hx hb hts iw_X1 hown hK hP 0 rfl rfl 0 (by decide) (hts _ mw_55) (fun _ h9 => h9) rfl dX1_addSign_20 ?_
      refine lv_aload_n hx hb dX1_addSign_23 rfl (lv_at hl 0 rfl) ?_
      refine va_get (D := D) (v := .int t.2.1) (C := RX1) (T := TX1) (N := 6) hx hb hts iw_X1 hown hK hP 0 rfl rfl 1 (by decide) (hts _ mw_56) (fun _ h9 => h9) rfl dX1_addSign_24 ?_
      refine lv_iload_n hx hb dX1_addSign_27 rfl (lv_at hl 1 rfl) ?_
      obtain ⟨g3, h4, h⟩ := bE h
      refine x_iast (cA := cI) hx hb hK hP hD hS 1 0 rfl rfl h4 dX1_addSign_28 (fun H locs hP hD hS => ?_)
      have hP : va_P D vwCl (wPd cI o sg nm (P0 t g3)) H := hP
      have hD : va_D (va_A (wPd cI o sg nm t) s.heap.size) (wPd cI o sg nm (P0 t g3)) := hD
      refine lv_aload_n hx hb dX1_addSign_29 rfl (lv_at hl 0 rfl) ?_
      refine lv_dup hx hb dX1_addSign_30 rfl ?_
      refine va_get (D := D) (v := .int ((P0 t g3).2.1)) (C := RX1) (T := TX1) (N := 6) hx hb hts iw_X1 hown hK hP 0 rfl rfl 1 (by decide) (hts _ mw_56) (fun _ h9 => h9) rfl dX1_addSign_31 ?_
      refine lv_iconst (v := 1) hx hb dX1_addSign_34 (by decide) ?_
      refine lv_iadd hx hb dX1_addSign_35 ?_
      refine va_put (D := D) (v := .int ((P0 t g3).2.1 + (1 : Int32))) (ty := .int) (C := RX1) (T := TX1) (N := 6) hx hb hts iw_X1 tyX1 tyX1_ok nmX1 hown hK hP hD hS 0 rfl rfl 1 (by decide) (hts _ mw_56) (fun _ h9 => h9) rfl (by decide +kernel) rfl rfl (Nat.le_of_ble_eq_true rfl) dX1_addSign_36 (fun H locs hP hD hS => ?_)
      have hP : va_P D vwCl (wPd cI o sg nm (P1 (P0 t g3) ((P0 t g3).2.1 + (1 : Int32)))) H := hP
      have hD : va_D (va_A (wPd cI o sg nm t) s.heap.size) (wPd cI o sg nm (P1 (P0 t g3) ((P0 t g3).2.1 + (1 : Int32)))) := hD
      cases h
      exact x_retV C0 hP hD hS dX1_addSign_39

/-! QuarrelWays.Pad.append (JI)Z -/
def f_X1_append_L28 (y1 : Int64) : Nat → PP → Int32 → Option (PP)
  | 0, _, _ => none
  | n + 1, z0, y4 => (if y4 < 0 then some z0 else ((f_X1_addSign z0 (((y1.toUInt64 >>> (((8 : Int32) * y4).toInt64.toUInt64 &&& Int64.toUInt64 63)).toInt64 &&& (255 : Int64)).toInt32)).bind fun x5 => f_X1_append_L28 y1 n x5 (y4 + (-1 : Int32))))
def f_X1_append (t : PP) (a1 : Int64) (a3 : Int32) : Option (Int32 × PP) := (if a3 < 0 then some ((0 : Int32), t) else (if (8 : Int32) < a3 then some ((0 : Int32), t) else (if (t.2.1 + a3) ≤ (80 : Int32) then ((f_X1_append_L28 a1 2000 t (a3 - (1 : Int32))).bind fun v7 => some ((1 : Int32), v7)) else some ((0 : Int32), t))))
abbrev rm_X1_append : Room := { frames := 1, cells := 0, slots := 0, locals := 21 }
theorem hd_X1_append : yX1_append.cls = RX1 ∧ yX1_append.cls ≠ "java/lang/invoke/MethodHandle" ∧ yX1_append.cls ≠ "java/lang/invoke/VarHandle" ∧ (parseMethodDescriptor yX1_append.desc).map (fun d => d.parameters.length) = some 2 := by decide +kernel
set_option maxHeartbeats 4000000 in
set_option maxRecDepth 100000 in
theorem k_X1_append_L28 {Q : State → Prop} {v : PP} (o sg nm : Nat) (y1 : Int64) {A : Nat → Prop} (hA : ∀ q, s.heap.size ≤ q → A q) (C0 : q_At p s m args meth c cX1_append 5 (some .boolean) RX1) (hK : va_K D vwCl (q_tys cI cZ cT) s) (hj : ∀ (H : Heap) (locs : List Loc) (ls : Array Slot), va_P D vwCl (wPd cI o sg nm v) H → va_D A (wPd cI o sg nm v) → va_S A s.heap H locs → lv_has ls 5 [] → W p l e rm_X1_append s m args below meth c H locs 0 0 Q (F0 m 55 ls [])) : ∀ (n : Nat) (z0 : PP) (y4 : Int32) (H : Heap) (locs : List Loc) (ls : Array Slot), va_P D vwCl (wPd cI o sg nm z0) H → va_D A (wPd cI o sg nm z0) → va_S A s.heap H locs → lv_has ls 5 [(0, .ref o), (1, .long y1), (4, .int y4)] → f_X1_append_L28 y1 n z0 y4 = some v → W p l e rm_X1_append s m args below meth c H locs 0 0 (Q) (F0 m 28 ls []) := by
  obtain ⟨hx, hb, hr, hml, hown, hts, hlocks⟩ := id C0
  have hF : CallFix p m c cX1_append 5 s args BW RX1 := ⟨hx, hb, hml, hown, hts⟩
  intro n
  induction n with
  | zero =>
    intro z0 y4 H locs ls hP hD hS hl h
    rw [f_X1_append_L28] at h
    cases h
  | succ n ih =>
    intro z0 y4 H locs ls hP hD hS hl h
    rw [f_X1_append_L28] at h
    refine lv_iload hx hb dX1_append_28 (lv_at hl 2 rfl) ?_
    refine lv_if_lt (tgt := 55) hx hb dX1_append_30 (by decide) (fun c4 => ?_) (fun c4 => ?_)
    · have h := xt c4 h
      cases h
      exact hj _ _ _ hP hD hS (lv_sub hl [] rfl)
    · have h := xf c4 h
      refine lv_aload_n hx hb dX1_append_33 rfl (lv_at hl 0 rfl) ?_
      refine lv_lload_n hx hb dX1_append_34 rfl (lv_at hl 1 rfl) ?_
      refine lv_bipush (v := 8) hx hb dX1_append_35 (by decide) ?_
      refine lv_iload hx hb dX1_append_37 (lv_at hl 2 rfl) ?_
      refine lv_imul hx hb dX1_append_39 ?_
      refine lv_lushr hx hb dX1_append_40 rfl ?_
      refine lv_ldc2 (v := 255) hx hb hown (hts _ mw_62) dX1_append_41 ?_
      refine lv_land hx hb dX1_append_44 ?_
      refine lv_l2i hx hb dX1_append_45 rfl ?_
      obtain ⟨x5, h6, h⟩ := bE h
      refine x_VV (As := [.int (((y1.toUInt64 >>> (((8 : Int32) * y4).toInt64.toUInt64 &&& Int64.toUInt64 63)).toInt64 &&& (255 : Int64)).toInt32)]) (rest := []) (wr := []) (W1 := wPd cI o sg nm x5) hF (c_X1_addSign l D cI cZ cT _ o sg nm z0 (((y1.toUInt64 >>> (((8 : Int32) * y4).toInt64.toUInt64 &&& Int64.toUInt64 63)).toInt64 &&& (255 : Int64)).toInt32) x5 h6) (cwV 1 hts (gqV mw_67 mw_68 mw_69 mw_70 mw_65) rfl rfl rfl hd_X1_addSign ⟨Nat.le_of_ble_eq_true rfl, Nat.le_of_ble_eq_true rfl⟩) hK hP hD hS hA q_T_bl (fun _ _ _ => trivial) [0, 1, 2] [] [0, 1, 2] rfl rfl ⟨rfl, rfl, rfl, rfl⟩ rfl rfl rfl rfl hl.1 rfl (Nat.le_of_ble_eq_true rfl) dX1_append_46 ⟨Nat.zero_le _, Nat.zero_le _⟩ (fun H locs hP hD hS => ?_)
      refine lv_iinc (v := (y4 + (-1 : Int32))) (lv' := [(4, .int (y4 + (-1 : Int32))), (0, .ref o), (1, .long y1)]) hx hb dX1_append_49 hl (k := 2) rfl rfl (by decide) rfl (fun ls hl => ?_)
      refine lv_goto (tgt := 28) hx hb dX1_append_52 (by decide) ?_
      exact ih x5 (y4 + (-1 : Int32)) _ _ _ hP hD hS (lv_sub hl [1, 2, 0] rfl) h
set_option maxHeartbeats 4000000 in
set_option maxRecDepth 100000 in
theorem c_X1_append (l : Launch) (D : va_G) (cI cZ cT : ClassId) (sz : Nat) (o sg nm : Nat) (t : PP) (a1 : Int64) (a3 : Int32) (r : Int32 × PP) (h : f_X1_append t a1 a3 = some r) : Met l yX1_append (wq yX1_append cX1_append 5 (some .boolean)) rm_X1_append (q_M D (q_tys cI cZ cT) sz (wPd cI o sg nm t) q_T [.ref o, .long a1, .int a3]) (va_Qi (fun r' _ => r' = r.1) (q_B D (wPd cI o sg nm t) sz (wPd cI o sg nm r.2)) (va_A (wPd cI o sg nm t) sz)) 0 0 (va_A (wPd cI o sg nm t) sz) := by
  refine q_MI (cc := cX1_append) (maxL := 5) (ret := (some .boolean)) (E := fun sz => q_T) (Qc := fun sz => (va_Qi (fun r' _ => r' = r.1) (q_B D (wPd cI o sg nm t) sz (wPd cI o sg nm r.2)) (va_A (wPd cI o sg nm t) sz))) (free := fun sz => va_A (wPd cI o sg nm t) sz) (plainFor_of_name (by decide)) (Nat.le_of_ble_eq_true rfl) (fun p e s m below meth c C0 hname hP hK hD hE ls hl => ?_)
  have hA : ∀ q, s.heap.size ≤ q → (va_A (wPd cI o sg nm t) s.heap.size) q := fun _ => Or.inr
  have hS : va_S (va_A (wPd cI o sg nm t) s.heap.size) s.heap s.heap [] := va_S.rf
  have hl : lv_has ls 5 [(0, .ref o), (1, .long a1), (3, .int a3)] := hl
  obtain ⟨hx, hb, hr, hml, hown, hts, hlocks⟩ := id C0
  have hF : CallFix p m c cX1_append 5 s _ BW RX1 := ⟨hx, hb, hml, hown, hts⟩
  rw [f_X1_append] at h
  refine lv_iload_n hx hb dX1_append_0 rfl (lv_at hl 2 rfl) ?_
  refine lv_if_lt (tgt := 21) hx hb dX1_append_1 (by decide) (fun c1 => ?_) (fun c1 => ?_)
  · have h := xt c1 h
    refine lv_iconst (v := 0) hx hb dX1_append_21 (by decide) ?_
    cases h
    exact x_retM C0 narrow_b0 hP hD hS dX1_append_22
  · have h := xf c1 h
    refine lv_iload_n hx hb dX1_append_4 rfl (lv_at hl 2 rfl) ?_
    refine lv_bipush (v := 8) hx hb dX1_append_5 (by decide) ?_
    refine lv_icmp_gt (tgt := 21) hx hb dX1_append_7 (by decide) (fun c2 => ?_) (fun c2 => ?_)
    · have h := xt c2 h
      refine lv_iconst (v := 0) hx hb dX1_append_21 (by decide) ?_
      cases h
      exact x_retM C0 narrow_b0 hP hD hS dX1_append_22
    · have h := xf c2 h
      refine lv_aload_n hx hb dX1_append_10 rfl (lv_at hl 0 rfl) ?_
      refine va_get (D := D) (v := .int t.2.1) (C := RX1) (T := TX1) (N := 6) hx hb hts iw_X1 hown hK hP 0 rfl rfl 1 (by decide) (hts _ mw_56) (fun _ h9 => h9) rfl dX1_append_11 ?_
      refine lv_iload_n hx hb dX1_append_14 rfl (lv_at hl 2 rfl) ?_
      refine lv_iadd hx hb dX1_append_15 ?_
      refine lv_bipush (v := 80) hx hb dX1_append_16 (by decide) ?_
      refine lv_icmp_le (tgt := 23) hx hb dX1_append_18 (by decide) (fun c3 => ?_) (fun c3 => ?_)
      · have h := xt c3 h
        refine lv_iload_n hx hb dX1_append_23 rfl (lv_at hl 2 rfl) ?_
        refine lv_iconst (v := 1) hx hb dX1_append_24 (by decide) ?_
        refine lv_isub hx hb dX1_append_25 ?_
        refine lv_istore (lv' := [(4, .int (a3 - (1 : Int32))), (0, .ref o), (1, .long a1), (3, .int a3)]) hx hb dX1_append_26 hl (by decide) rfl (fun ls hl => ?_)
        obtain ⟨v7, h8, h⟩ := bE h
        refine k_X1_append_L28 (v := v7) o sg nm a1 hA C0 hK (fun H locs ls hP hD hS hl => ?_) 2000 t (a3 - (1 : Int32)) _ _ _ hP hD hS (lv_sub hl [1, 2, 0] rfl) h8
        refine lv_iconst (v := 1) hx hb dX1_append_55 (by decide) ?_
        cases h
        exact x_retM C0 narrow_b1 hP hD hS dX1_append_56
      · have h := xf c3 h
        refine lv_iconst (v := 0) hx hb dX1_append_21 (by decide) ?_
        cases h
        exact x_retM C0 narrow_b0 hP hD hS dX1_append_22

/-! QuarrelWays.Pad.addNumber (I)V -/
def f_X1_addNumber (t : PP) (a1 : Int32) : Option (PP) := (if t.2.2.2.2.2 < 0 then some t else (if (3 : Int32) ≤ t.2.2.2.2.2 then some t else ((wr t.2.2.2.2.1 3 t.2.2.2.2.2 a1).bind fun g3 => some (P5 (P4 t g3) ((P4 t g3).2.2.2.2.2 + (1 : Int32))))))
abbrev rm_X1_addNumber : Room := { frames := 0, cells := 0, slots := 0, locals := 0 }
theorem hd_X1_addNumber : yX1_addNumber.cls = RX1 ∧ yX1_addNumber.cls ≠ "java/lang/invoke/MethodHandle" ∧ yX1_addNumber.cls ≠ "java/lang/invoke/VarHandle" ∧ (parseMethodDescriptor yX1_addNumber.desc).map (fun d => d.parameters.length) = some 1 := by decide +kernel
set_option maxHeartbeats 4000000 in
set_option maxRecDepth 100000 in
theorem c_X1_addNumber (l : Launch) (D : va_G) (cI cZ cT : ClassId) (sz : Nat) (o sg nm : Nat) (t : PP) (a1 : Int32) (r : PP) (h : f_X1_addNumber t a1 = some r) : Met l yX1_addNumber (wq yX1_addNumber cX1_addNumber 2 none) rm_X1_addNumber (q_M D (q_tys cI cZ cT) sz (wPd cI o sg nm t) q_T [.ref o, .int a1]) (va_Qv (fun _ => True) (q_B D (wPd cI o sg nm t) sz (wPd cI o sg nm r)) (va_A (wPd cI o sg nm t) sz)) 0 0 (va_A (wPd cI o sg nm t) sz) := by
  refine q_MI (cc := cX1_addNumber) (maxL := 2) (ret := none) (E := fun sz => q_T) (Qc := fun sz => (va_Qv (fun _ => True) (q_B D (wPd cI o sg nm t) sz (wPd cI o sg nm r)) (va_A (wPd cI o sg nm t) sz))) (free := fun sz => va_A (wPd cI o sg nm t) sz) (plainFor_of_name (by decide)) (Nat.le_of_ble_eq_true rfl) (fun p e s m below meth c C0 hname hP hK hD hE ls hl => ?_)
  have hA : ∀ q, s.heap.size ≤ q → (va_A (wPd cI o sg nm t) s.heap.size) q := fun _ => Or.inr
  have hS : va_S (va_A (wPd cI o sg nm t) s.heap.size) s.heap s.heap [] := va_S.rf
  have hl : lv_has ls 2 [(0, .ref o), (1, .int a1)] := hl
  obtain ⟨hx, hb, hr, hml, hown, hts, hlocks⟩ := id C0
  have hF : CallFix p m c cX1_addNumber 2 s _ BW RX1 := ⟨hx, hb, hml, hown, hts⟩
  rw [f_X1_addNumber] at h
  refine lv_aload_n hx hb dX1_addNumber_0 rfl (lv_at hl 0 rfl) ?_
  refine va_get (D := D) (v := .int t.2.2.2.2.2) (C := RX1) (T := TX1) (N := 6) hx hb hts iw_X1 hown hK hP 0 rfl rfl 5 (by decide) (hts _ mw_60) (fun _ h9 => h9) rfl dX1_addNumber_1 ?_
  refine lv_if_lt (tgt := 39) hx hb dX1_addNumber_4 (by decide) (fun c1 => ?_) (fun c1 => ?_)
  · have h := xt c1 h
    cases h
    exact x_retV C0 hP hD hS dX1_addNumber_39
  · have h := xf c1 h
    refine lv_aload_n hx hb dX1_addNumber_7 rfl (lv_at hl 0 rfl) ?_
    refine va_get (D := D) (v := .int t.2.2.2.2.2) (C := RX1) (T := TX1) (N := 6) hx hb hts iw_X1 hown hK hP 0 rfl rfl 5 (by decide) (hts _ mw_60) (fun _ h9 => h9) rfl dX1_addNumber_8 ?_
    refine lv_aload_n hx hb dX1_addNumber_11 rfl (lv_at hl 0 rfl) ?_
    refine va_get (D := D) (v := .ref nm) (C := RX1) (T := TX1) (N := 6) hx hb hts iw_X1 hown hK hP 0 rfl rfl 4 (by decide) (hts _ mw_59) (fun _ h9 => h9) rfl dX1_addNumber_12 ?_
    refine va_alen hx hb hK hP 2 0 rfl rfl (v := 3) rfl dX1_addNumber_15 ?_
    refine lv_icmp_ge (tgt := 39) hx hb dX1_addNumber_16 (by decide) (fun c2 => ?_) (fun c2 => ?_)
    · have h := xt c2 h
      cases h
      exact x_retV C0 hP hD hS dX1_addNumber_39
    · have h := xf c2 h
      refine lv_aload_n hx hb dX1_addNumber_19 rfl (lv_at hl 0 rfl) ?_
      refine va_get (D := D) (v := .ref nm) (C := RX1) (T := TX1) (N := 6) hx hb hts iw_X1 hown hK hP 0 rfl rfl 4 (by decide) (hts _ mw_59) (fun _ h9 => h9) rfl dX1_addNumber_20 ?_
      refine lv_aload_n hx hb dX1_addNumber_23 rfl (lv_at hl 0 rfl) ?_
      refine va_get (D := D) (v := .int t.2.2.2.2.2) (C := RX1) (T := TX1) (N := 6) hx hb hts iw_X1 hown hK hP 0 rfl rfl 5 (by decide) (hts _ mw_60) (fun _ h9 => h9) rfl dX1_addNumber_24 ?_
      refine lv_iload_n hx hb dX1_addNumber_27 rfl (lv_at hl 1 rfl) ?_
      obtain ⟨g3, h4, h⟩ := bE h
      refine x_iast (cA := cI) hx hb hK hP hD hS 2 0 rfl rfl h4 dX1_addNumber_28 (fun H locs hP hD hS => ?_)
      have hP : va_P D vwCl (wPd cI o sg nm (P4 t g3)) H := hP
      have hD : va_D (va_A (wPd cI o sg nm t) s.heap.size) (wPd cI o sg nm (P4 t g3)) := hD
      refine lv_aload_n hx hb dX1_addNumber_29 rfl (lv_at hl 0 rfl) ?_
      refine lv_dup hx hb dX1_addNumber_30 rfl ?_
      refine va_get (D := D) (v := .int ((P4 t g3).2.2.2.2.2)) (C := RX1) (T := TX1) (N := 6) hx hb hts iw_X1 hown hK hP 0 rfl rfl 5 (by decide) (hts _ mw_60) (fun _ h9 => h9) rfl dX1_addNumber_31 ?_
      refine lv_iconst (v := 1) hx hb dX1_addNumber_34 (by decide) ?_
      refine lv_iadd hx hb dX1_addNumber_35 ?_
      refine va_put (D := D) (v := .int ((P4 t g3).2.2.2.2.2 + (1 : Int32))) (ty := .int) (C := RX1) (T := TX1) (N := 6) hx hb hts iw_X1 tyX1 tyX1_ok nmX1 hown hK hP hD hS 0 rfl rfl 5 (by decide) (hts _ mw_60) (fun _ h9 => h9) rfl (by decide +kernel) rfl rfl (Nat.le_of_ble_eq_true rfl) dX1_addNumber_36 (fun H locs hP hD hS => ?_)
      have hP : va_P D vwCl (wPd cI o sg nm (P5 (P4 t g3) ((P4 t g3).2.2.2.2.2 + (1 : Int32)))) H := hP
      have hD : va_D (va_A (wPd cI o sg nm t) s.heap.size) (wPd cI o sg nm (P5 (P4 t g3) ((P4 t g3).2.2.2.2.2 + (1 : Int32)))) := hD
      cases h
      exact x_retV C0 hP hD hS dX1_addNumber_39

/-! QuarrelWays.Pad.readNumber (I)Z -/
def f_X1_readNumber (t : PP) (a1 : Int32) : Option (Int32 × PP) := ((f_X1_signAt t t.2.2.1).bind fun x1 => ((f_X1_isDigit x1).bind fun x3 => (if x3 = 0 then some ((0 : Int32), t) else ((f_X1_signAt t t.2.2.1).bind fun x6 => (((if a1 ≤ (1 : Int32) then some ((x6 - (48 : Int32)), (P2 t (t.2.2.1 + (1 : Int32)))) else (if (x6 - (48 : Int32)) ≤ 0 then some ((x6 - (48 : Int32)), (P2 t (t.2.2.1 + (1 : Int32)))) else ((f_X1_signAt (P2 t (t.2.2.1 + (1 : Int32))) ((P2 t (t.2.2.1 + (1 : Int32))).2.2.1)).bind fun x13 => ((f_X1_isDigit x13).bind fun x15 => (if x15 = 0 then some ((x6 - (48 : Int32)), (P2 t (t.2.2.1 + (1 : Int32)))) else ((f_X1_signAt (P2 t (t.2.2.1 + (1 : Int32))) ((P2 t (t.2.2.1 + (1 : Int32))).2.2.1)).bind fun x18 => some (((((10 : Int32) * (x6 - (48 : Int32))) + x18) - (48 : Int32)), (P2 (P2 t (t.2.2.1 + (1 : Int32))) ((P2 t (t.2.2.1 + (1 : Int32))).2.2.1 + (1 : Int32)))))))))) : Option (Int32 × PP)).bind fun v8 => ((f_X1_addNumber v8.2 v8.1).bind fun x9 => some ((1 : Int32), x9)))))))
abbrev rm_X1_readNumber : Room := { frames := 1, cells := 0, slots := 0, locals := 21 }
theorem hd_X1_readNumber : yX1_readNumber.cls = RX1 ∧ yX1_readNumber.cls ≠ "java/lang/invoke/MethodHandle" ∧ yX1_readNumber.cls ≠ "java/lang/invoke/VarHandle" ∧ (parseMethodDescriptor yX1_readNumber.desc).map (fun d => d.parameters.length) = some 1 := by decide +kernel
set_option maxHeartbeats 4000000 in
set_option maxRecDepth 100000 in
theorem c_X1_readNumber (l : Launch) (D : va_G) (cI cZ cT : ClassId) (sz : Nat) (o sg nm : Nat) (t : PP) (a1 : Int32) (r : Int32 × PP) (h : f_X1_readNumber t a1 = some r) : Met l yX1_readNumber (wq yX1_readNumber cX1_readNumber 3 (some .boolean)) rm_X1_readNumber (q_M D (q_tys cI cZ cT) sz (wPd cI o sg nm t) q_T [.ref o, .int a1]) (va_Qi (fun r' _ => r' = r.1) (q_B D (wPd cI o sg nm t) sz (wPd cI o sg nm r.2)) (va_A (wPd cI o sg nm t) sz)) 0 0 (va_A (wPd cI o sg nm t) sz) := by
  refine q_MI (cc := cX1_readNumber) (maxL := 3) (ret := (some .boolean)) (E := fun sz => q_T) (Qc := fun sz => (va_Qi (fun r' _ => r' = r.1) (q_B D (wPd cI o sg nm t) sz (wPd cI o sg nm r.2)) (va_A (wPd cI o sg nm t) sz))) (free := fun sz => va_A (wPd cI o sg nm t) sz) (plainFor_of_name (by decide)) (Nat.le_of_ble_eq_true rfl) (fun p e s m below meth c C0 hname hP hK hD hE ls hl => ?_)
  have hA : ∀ q, s.heap.size ≤ q → (va_A (wPd cI o sg nm t) s.heap.size) q := fun _ => Or.inr
  have hS : va_S (va_A (wPd cI o sg nm t) s.heap.size) s.heap s.heap [] := va_S.rf
  have hl : lv_has ls 3 [(0, .ref o), (1, .int a1)] := hl
  obtain ⟨hx, hb, hr, hml, hown, hts, hlocks⟩ := id C0
  have hF : CallFix p m c cX1_readNumber 3 s _ BW RX1 := ⟨hx, hb, hml, hown, hts⟩
  rw [f_X1_readNumber] at h
  refine lv_aload_n hx hb dX1_readNumber_0 rfl (lv_at hl 0 rfl) ?_
  refine lv_aload_n hx hb dX1_readNumber_1 rfl (lv_at hl 0 rfl) ?_
  refine va_get (D := D) (v := .int t.2.2.1) (C := RX1) (T := TX1) (N := 6) hx hb hts iw_X1 hown hK hP 0 rfl rfl 2 (by decide) (hts _ mw_57) (fun _ h9 => h9) rfl dX1_readNumber_2 ?_
  obtain ⟨x1, h2, h⟩ := bE h
  refine x_RV (As := [.int t.2.2.1]) (rest := []) hF (c_X1_signAt l D cI cZ cT o sg nm t t.2.2.1 x1 h2) (cwV 1 hts (gqV mw_121 mw_122 mw_123 mw_70 mw_71) rfl rfl rfl hd_X1_signAt ⟨Nat.le_of_ble_eq_true rfl, Nat.le_of_ble_eq_true rfl⟩) hK hP q_T_bl (fun _ _ _ => trivial) [0, 1, 2] rfl rfl rfl rfl hl.1 rfl (Nat.le_of_ble_eq_true rfl) dX1_readNumber_5 ⟨Nat.zero_le _, Nat.zero_le _⟩ ?_
  obtain ⟨x3, h4, h⟩ := bE h
  refine x_RS (As := [.int x1]) (rest := []) hF (c_X1_isDigit l D cI cZ cT  x1 x3 h4) (va_cwS 1 hts (gqS mw_124 mw_125 mw_70 mw_118) rfl rfl rfl hd_X1_isDigit.2 ⟨Nat.le_of_ble_eq_true rfl, Nat.le_of_ble_eq_true rfl⟩) hK hP q_T_bl (fun _ _ _ => trivial) [] rfl rfl hl.1 rfl (Nat.le_of_ble_eq_true rfl) dX1_readNumber_8 ⟨Nat.zero_le _, Nat.zero_le _⟩ ?_
  refine lv_if_ne (tgt := 16) hx hb dX1_readNumber_11 (by decide) (fun c5 => ?_) (fun c5 => ?_)
  · have h := xf c5 h
    refine lv_aload_n hx hb dX1_readNumber_16 rfl (lv_at hl 0 rfl) ?_
    refine lv_aload_n hx hb dX1_readNumber_17 rfl (lv_at hl 0 rfl) ?_
    refine va_get (D := D) (v := .int t.2.2.1) (C := RX1) (T := TX1) (N := 6) hx hb hts iw_X1 hown hK hP 0 rfl rfl 2 (by decide) (hts _ mw_57) (fun _ h9 => h9) rfl dX1_readNumber_18 ?_
    obtain ⟨x6, h7, h⟩ := bE h
    refine x_RV (As := [.int t.2.2.1]) (rest := []) hF (c_X1_signAt l D cI cZ cT o sg nm t t.2.2.1 x6 h7) (cwV 1 hts (gqV mw_121 mw_122 mw_123 mw_70 mw_71) rfl rfl rfl hd_X1_signAt ⟨Nat.le_of_ble_eq_true rfl, Nat.le_of_ble_eq_true rfl⟩) hK hP q_T_bl (fun _ _ _ => trivial) [0, 1, 2] rfl rfl rfl rfl hl.1 rfl (Nat.le_of_ble_eq_true rfl) dX1_readNumber_21 ⟨Nat.zero_le _, Nat.zero_le _⟩ ?_
    refine lv_bipush (v := 48) hx hb dX1_readNumber_24 (by decide) ?_
    refine lv_isub hx hb dX1_readNumber_26 ?_
    refine lv_istore_n (lv' := [(2, .int (x6 - (48 : Int32))), (0, .ref o), (1, .int a1)]) hx hb dX1_readNumber_27 rfl hl (by decide) rfl (fun ls hl => ?_)
    refine lv_aload_n hx hb dX1_readNumber_28 rfl (lv_at hl 1 rfl) ?_
    refine lv_dup hx hb dX1_readNumber_29 rfl ?_
    refine va_get (D := D) (v := .int t.2.2.1) (C := RX1) (T := TX1) (N := 6) hx hb hts iw_X1 hown hK hP 0 rfl rfl 2 (by decide) (hts _ mw_57) (fun _ h9 => h9) rfl dX1_readNumber_30 ?_
    refine lv_iconst (v := 1) hx hb dX1_readNumber_33 (by decide) ?_
    refine lv_iadd hx hb dX1_readNumber_34 ?_
    refine va_put (D := D) (v := .int (t.2.2.1 + (1 : Int32))) (ty := .int) (C := RX1) (T := TX1) (N := 6) hx hb hts iw_X1 tyX1 tyX1_ok nmX1 hown hK hP hD hS 0 rfl rfl 2 (by decide) (hts _ mw_57) (fun _ h9 => h9) rfl (by decide +kernel) rfl rfl (Nat.le_of_ble_eq_true rfl) dX1_readNumber_35 (fun H locs hP hD hS => ?_)
    have hP : va_P D vwCl (wPd cI o sg nm (P2 t (t.2.2.1 + (1 : Int32)))) H := hP
    have hD : va_D (va_A (wPd cI o sg nm t) s.heap.size) (wPd cI o sg nm (P2 t (t.2.2.1 + (1 : Int32)))) := hD
    refine lv_iload_n hx hb dX1_readNumber_38 rfl (lv_at hl 2 rfl) ?_
    refine lv_iconst (v := 1) hx hb dX1_readNumber_39 (by decide) ?_
    refine x_jM (V := Int32 × PP) (nL := 3) (D := D) (A := (va_A (wPd cI o sg nm t) s.heap.size)) (H0 := s.heap) (fun v8 => [(0, .ref o), (2, .int v8.1)]) 88 (fun v8 => []) (fun v8 => wPd cI o sg nm v8.2) h (fun v8 h H locs ls hP hD hS hl => ?_) (fun v8 h hj => ?_)
    · refine lv_aload_n hx hb dX1_readNumber_88 rfl (lv_at hl 0 rfl) ?_
      refine lv_iload_n hx hb dX1_readNumber_89 rfl (lv_at hl 1 rfl) ?_
      obtain ⟨x9, h10, h⟩ := bE h
      refine x_VV (As := [.int v8.1]) (rest := []) (wr := []) (W1 := wPd cI o sg nm x9) hF (c_X1_addNumber l D cI cZ cT _ o sg nm v8.2 v8.1 x9 h10) (cwV 1 hts (gqV mw_126 mw_127 mw_128 mw_70 mw_119) rfl rfl rfl hd_X1_addNumber ⟨Nat.le_of_ble_eq_true rfl, Nat.le_of_ble_eq_true rfl⟩) hK hP hD hS hA q_T_bl (fun _ _ _ => trivial) [0, 1, 2] [] [0, 1, 2] rfl rfl ⟨rfl, rfl, rfl, rfl⟩ rfl rfl rfl rfl hl.1 rfl (Nat.le_of_ble_eq_true rfl) dX1_readNumber_90 ⟨Nat.zero_le _, Nat.zero_le _⟩ (fun H locs hP hD hS => ?_)
      refine lv_iconst (v := 1) hx hb dX1_readNumber_93 (by decide) ?_
      cases h
      exact x_retM C0 narrow_b1 hP hD hS dX1_readNumber_94
    · refine lv_icmp_le (tgt := 88) hx hb dX1_readNumber_40 (by decide) (fun c11 => ?_) (fun c11 => ?_)
      · have h := xt c11 h
        cases h
        exact hj _ _ _ hP hD hS (lv_sub hl [1, 0] rfl)
      · have h := xf c11 h
        refine lv_iload_n hx hb dX1_readNumber_43 rfl (lv_at hl 0 rfl) ?_
        refine lv_if_le (tgt := 88) hx hb dX1_readNumber_44 (by decide) (fun c12 => ?_) (fun c12 => ?_)
        · have h := xt c12 h
          cases h
          exact hj _ _ _ hP hD hS (lv_sub hl [1, 0] rfl)
        · have h := xf c12 h
          refine lv_aload_n hx hb dX1_readNumber_47 rfl (lv_at hl 1 rfl) ?_
          refine lv_aload_n hx hb dX1_readNumber_48 rfl (lv_at hl 1 rfl) ?_
          refine va_get (D := D) (v := .int ((P2 t (t.2.2.1 + (1 : Int32))).2.2.1)) (C := RX1) (T := TX1) (N := 6) hx hb hts iw_X1 hown hK hP 0 rfl rfl 2 (by decide) (hts _ mw_57) (fun _ h9 => h9) rfl dX1_readNumber_49 ?_
          obtain ⟨x13, h14, h⟩ := bE h
          refine x_RV (As := [.int ((P2 t (t.2.2.1 + (1 : Int32))).2.2.1)]) (rest := []) hF (c_X1_signAt l D cI cZ cT o sg nm (P2 t (t.2.2.1 + (1 : Int32))) ((P2 t (t.2.2.1 + (1 : Int32))).2.2.1) x13 h14) (cwV 1 hts (gqV mw_121 mw_122 mw_123 mw_70 mw_71) rfl rfl rfl hd_X1_signAt ⟨Nat.le_of_ble_eq_true rfl, Nat.le_of_ble_eq_true rfl⟩) hK hP q_T_bl (fun _ _ _ => trivial) [0, 1, 2] rfl rfl rfl rfl hl.1 rfl (Nat.le_of_ble_eq_true rfl) dX1_readNumber_52 ⟨Nat.zero_le _, Nat.zero_le _⟩ ?_
          obtain ⟨x15, h16, h⟩ := bE h
          refine x_RS (As := [.int x13]) (rest := []) hF (c_X1_isDigit l D cI cZ cT  x13 x15 h16) (va_cwS 1 hts (gqS mw_124 mw_125 mw_70 mw_118) rfl rfl rfl hd_X1_isDigit.2 ⟨Nat.le_of_ble_eq_true rfl, Nat.le_of_ble_eq_true rfl⟩) hK hP q_T_bl (fun _ _ _ => trivial) [] rfl rfl hl.1 rfl (Nat.le_of_ble_eq_true rfl) dX1_readNumber_55 ⟨Nat.zero_le _, Nat.zero_le _⟩ ?_
          refine lv_if_eq (tgt := 88) hx hb dX1_readNumber_58 (by decide) (fun c17 => ?_) (fun c17 => ?_)
          · have h := xt c17 h
            cases h
            exact hj _ _ _ hP hD hS (lv_sub hl [1, 0] rfl)
          · have h := xf c17 h
            refine lv_bipush (v := 10) hx hb dX1_readNumber_61 (by decide) ?_
            refine lv_iload_n hx hb dX1_readNumber_63 rfl (lv_at hl 0 rfl) ?_
            refine lv_imul hx hb dX1_readNumber_64 ?_
            refine lv_aload_n hx hb dX1_readNumber_65 rfl (lv_at hl 1 rfl) ?_
            refine lv_aload_n hx hb dX1_readNumber_66 rfl (lv_at hl 1 rfl) ?_
            refine va_get (D := D) (v := .int ((P2 t (t.2.2.1 + (1 : Int32))).2.2.1)) (C := RX1) (T := TX1) (N := 6) hx hb hts iw_X1 hown hK hP 0 rfl rfl 2 (by decide) (hts _ mw_57) (fun _ h9 => h9) rfl dX1_readNumber_67 ?_
            obtain ⟨x18, h19, h⟩ := bE h
            refine x_RV (As := [.int ((P2 t (t.2.2.1 + (1 : Int32))).2.2.1)]) (rest := [.int ((10 : Int32) * (x6 - (48 : Int32)))]) hF (c_X1_signAt l D cI cZ cT o sg nm (P2 t (t.2.2.1 + (1 : Int32))) ((P2 t (t.2.2.1 + (1 : Int32))).2.2.1) x18 h19) (cwV 1 hts (gqV mw_121 mw_122 mw_123 mw_70 mw_71) rfl rfl rfl hd_X1_signAt ⟨Nat.le_of_ble_eq_true rfl, Nat.le_of_ble_eq_true rfl⟩) hK hP q_T_bl (fun _ _ _ => trivial) [0, 1, 2] rfl rfl rfl rfl hl.1 rfl (Nat.le_of_ble_eq_true rfl) dX1_readNumber_70 ⟨Nat.zero_le _, Nat.zero_le _⟩ ?_
            refine lv_iadd hx hb dX1_readNumber_73 ?_
            refine lv_bipush (v := 48) hx hb dX1_readNumber_74 (by decide) ?_
            refine lv_isub hx hb dX1_readNumber_76 ?_
            refine lv_istore_n (lv' := [(2, .int ((((10 : Int32) * (x6 - (48 : Int32))) + x18) - (48 : Int32))), (0, .ref o), (1, .int a1)]) hx hb dX1_readNumber_77 rfl hl (by decide) rfl (fun ls hl => ?_)
            refine lv_aload_n hx hb dX1_readNumber_78 rfl (lv_at hl 1 rfl) ?_
            refine lv_dup hx hb dX1_readNumber_79 rfl ?_
            refine va_get (D := D) (v := .int ((P2 t (t.2.2.1 + (1 : Int32))).2.2.1)) (C := RX1) (T := TX1) (N := 6) hx hb hts iw_X1 hown hK hP 0 rfl rfl 2 (by decide) (hts _ mw_57) (fun _ h9 => h9) rfl dX1_readNumber_80 ?_
            refine lv_iconst (v := 1) hx hb dX1_readNumber_83 (by decide) ?_
            refine lv_iadd hx hb dX1_readNumber_84 ?_
            refine va_put (D := D) (v := .int ((P2 t (t.2.2.1 + (1 : Int32))).2.2.1 + (1 : Int32))) (ty := .int) (C := RX1) (T := TX1) (N := 6) hx hb hts iw_X1 tyX1 tyX1_ok nmX1 hown hK hP hD hS 0 rfl rfl 2 (by decide) (hts _ mw_57) (fun _ h9 => h9) rfl (by decide +kernel) rfl rfl (Nat.le_of_ble_eq_true rfl) dX1_readNumber_85 (fun H locs hP hD hS => ?_)
            have hP : va_P D vwCl (wPd cI o sg nm (P2 (P2 t (t.2.2.1 + (1 : Int32))) ((P2 t (t.2.2.1 + (1 : Int32))).2.2.1 + (1 : Int32)))) H := hP
            have hD : va_D (va_A (wPd cI o sg nm t) s.heap.size) (wPd cI o sg nm (P2 (P2 t (t.2.2.1 + (1 : Int32))) ((P2 t (t.2.2.1 + (1 : Int32))).2.2.1 + (1 : Int32)))) := hD
            cases h
            exact hj _ _ _ hP hD hS (lv_sub hl [1, 0] rfl)
  · have h := xt c5 h
    refine lv_iconst (v := 0) hx hb dX1_readNumber_14 (by decide) ?_
    cases h
    exact x_retM C0 narrow_b0 hP hD hS dX1_readNumber_15

/-! QuarrelWays.Pad.readPart (C)Z -/
def f_X1_readPart (t : PP) (a1 : Int32) : Option (Int32 × PP) := (if a1 = (100 : Int32) then (if a1 = (110 : Int32) then ((f_X1_readNumber t (2 : Int32)).bind fun x7 => ((gb x7.1).bind fun x9 => some (x9, x7.2))) else ((f_X1_readNumber t (1 : Int32)).bind fun x3 => ((gb x3.1).bind fun x5 => some (x5, x3.2)))) else (if a1 = (110 : Int32) then (if a1 = (110 : Int32) then ((f_X1_readNumber t (2 : Int32)).bind fun x20 => ((gb x20.1).bind fun x22 => some (x22, x20.2))) else ((f_X1_readNumber t (1 : Int32)).bind fun x16 => ((gb x16.1).bind fun x18 => some (x18, x16.2)))) else ((f_X1_signAt t t.2.2.1).bind fun x12 => (if x12 = a1 then some ((1 : Int32), (P2 t (t.2.2.1 + (1 : Int32)))) else some ((0 : Int32), t)))))
abbrev rm_X1_readPart : Room := { frames := 2, cells := 0, slots := 0, locals := 43 }
theorem hd_X1_readPart : yX1_readPart.cls = RX1 ∧ yX1_readPart.cls ≠ "java/lang/invoke/MethodHandle" ∧ yX1_readPart.cls ≠ "java/lang/invoke/VarHandle" ∧ (parseMethodDescriptor yX1_readPart.desc).map (fun d => d.parameters.length) = some 1 := by decide +kernel
set_option maxHeartbeats 4000000 in
set_option maxRecDepth 100000 in
theorem c_X1_readPart (l : Launch) (D : va_G) (cI cZ cT : ClassId) (sz : Nat) (o sg nm : Nat) (t : PP) (a1 : Int32) (r : Int32 × PP) (h : f_X1_readPart t a1 = some r) : Met l yX1_readPart (wq yX1_readPart cX1_readPart 2 (some .boolean)) rm_X1_readPart (q_M D (q_tys cI cZ cT) sz (wPd cI o sg nm t) q_T [.ref o, .int a1]) (va_Qi (fun r' _ => r' = r.1) (q_B D (wPd cI o sg nm t) sz (wPd cI o sg nm r.2)) (va_A (wPd cI o sg nm t) sz)) 0 0 (va_A (wPd cI o sg nm t) sz) := by
  refine q_MI (cc := cX1_readPart) (maxL := 2) (ret := (some .boolean)) (E := fun sz => q_T) (Qc := fun sz => (va_Qi (fun r' _ => r' = r.1) (q_B D (wPd cI o sg nm t) sz (wPd cI o sg nm r.2)) (va_A (wPd cI o sg nm t) sz))) (free := fun sz => va_A (wPd cI o sg nm t) sz) (plainFor_of_name (by decide)) (Nat.le_of_ble_eq_true rfl) (fun p e s m below meth c C0 hname hP hK hD hE ls hl => ?_)
  have hA : ∀ q, s.heap.size ≤ q → (va_A (wPd cI o sg nm t) s.heap.size) q := fun _ => Or.inr
  have hS : va_S (va_A (wPd cI o sg nm t) s.heap.size) s.heap s.heap [] := va_S.rf
  have hl : lv_has ls 2 [(0, .ref o), (1, .int a1)] := hl
  obtain ⟨hx, hb, hr, hml, hown, hts, hlocks⟩ := id C0
  have hF : CallFix p m c cX1_readPart 2 s _ BW RX1 := ⟨hx, hb, hml, hown, hts⟩
  rw [f_X1_readPart] at h
  refine lv_iload_n hx hb dX1_readPart_0 rfl (lv_at hl 1 rfl) ?_
  refine lv_bipush (v := 100) hx hb dX1_readPart_1 (by decide) ?_
  refine lv_icmp_eq (tgt := 12) hx hb dX1_readPart_3 (by decide) (fun c1 => ?_) (fun c1 => ?_)
  · have h := xt c1 h
    refine lv_aload_n hx hb dX1_readPart_12 rfl (lv_at hl 0 rfl) ?_
    refine lv_iload_n hx hb dX1_readPart_13 rfl (lv_at hl 1 rfl) ?_
    refine lv_bipush (v := 110) hx hb dX1_readPart_14 (by decide) ?_
    refine lv_icmp_ne (tgt := 23) hx hb dX1_readPart_16 (by decide) (fun c2 => ?_) (fun c2 => ?_)
    · have h := xf c2 h
      refine lv_iconst (v := 1) hx hb dX1_readPart_23 (by decide) ?_
      obtain ⟨x3, h4, h⟩ := bE h
      refine x_MV (As := [.int (1 : Int32)]) (rest := []) (wr := []) (W1 := wPd cI o sg nm x3.2) hF (c_X1_readNumber l D cI cZ cT _ o sg nm t (1 : Int32) x3 h4) (cwV 1 hts (gqV mw_130 mw_131 mw_132 mw_70 mw_120) rfl rfl rfl hd_X1_readNumber ⟨Nat.le_of_ble_eq_true rfl, Nat.le_of_ble_eq_true rfl⟩) hK hP hD hS hA q_T_bl (fun _ _ _ => trivial) [0, 1, 2] [] [0, 1, 2] rfl rfl ⟨rfl, rfl, rfl, rfl⟩ rfl rfl rfl rfl hl.1 rfl (Nat.le_of_ble_eq_true rfl) dX1_readPart_24 ⟨Nat.zero_le _, Nat.zero_le _⟩ (fun H locs hP hD hS => ?_)
      obtain ⟨x5, h6, h⟩ := bE h
      obtain ⟨hz, ex5⟩ := gb_e h6
      subst ex5
      cases h
      exact x_retM C0 (x_nz hz) hP hD hS dX1_readPart_27
    · have h := xt c2 h
      refine lv_iconst (v := 2) hx hb dX1_readPart_19 (by decide) ?_
      refine lv_goto (tgt := 24) hx hb dX1_readPart_20 (by decide) ?_
      obtain ⟨x7, h8, h⟩ := bE h
      refine x_MV (As := [.int (2 : Int32)]) (rest := []) (wr := []) (W1 := wPd cI o sg nm x7.2) hF (c_X1_readNumber l D cI cZ cT _ o sg nm t (2 : Int32) x7 h8) (cwV 1 hts (gqV mw_130 mw_131 mw_132 mw_70 mw_120) rfl rfl rfl hd_X1_readNumber ⟨Nat.le_of_ble_eq_true rfl, Nat.le_of_ble_eq_true rfl⟩) hK hP hD hS hA q_T_bl (fun _ _ _ => trivial) [0, 1, 2] [] [0, 1, 2] rfl rfl ⟨rfl, rfl, rfl, rfl⟩ rfl rfl rfl rfl hl.1 rfl (Nat.le_of_ble_eq_true rfl) dX1_readPart_24 ⟨Nat.zero_le _, Nat.zero_le _⟩ (fun H locs hP hD hS => ?_)
      obtain ⟨x9, h10, h⟩ := bE h
      obtain ⟨hz, ex9⟩ := gb_e h10
      subst ex9
      cases h
      exact x_retM C0 (x_nz hz) hP hD hS dX1_readPart_27
  · have h := xf c1 h
    refine lv_iload_n hx hb dX1_readPart_6 rfl (lv_at hl 1 rfl) ?_
    refine lv_bipush (v := 110) hx hb dX1_readPart_7 (by decide) ?_
    refine lv_icmp_ne (tgt := 28) hx hb dX1_readPart_9 (by decide) (fun c11 => ?_) (fun c11 => ?_)
    · have h := xf c11 h
      refine lv_aload_n hx hb dX1_readPart_28 rfl (lv_at hl 0 rfl) ?_
      refine lv_aload_n hx hb dX1_readPart_29 rfl (lv_at hl 0 rfl) ?_
      refine va_get (D := D) (v := .int t.2.2.1) (C := RX1) (T := TX1) (N := 6) hx hb hts iw_X1 hown hK hP 0 rfl rfl 2 (by decide) (hts _ mw_57) (fun _ h9 => h9) rfl dX1_readPart_30 ?_
      obtain ⟨x12, h13, h⟩ := bE h
      refine x_RV (As := [.int t.2.2.1]) (rest := []) hF (c_X1_signAt l D cI cZ cT o sg nm t t.2.2.1 x12 h13) (cwV 1 hts (gqV mw_121 mw_122 mw_123 mw_70 mw_71) rfl rfl rfl hd_X1_signAt ⟨Nat.le_of_ble_eq_true rfl, Nat.le_of_ble_eq_true rfl⟩) hK hP q_T_bl (fun _ _ _ => trivial) [0, 1, 2] rfl rfl rfl rfl hl.1 rfl (Nat.le_of_ble_eq_true rfl) dX1_readPart_33 ⟨Nat.zero_le _, Nat.zero_le _⟩ ?_
      refine lv_iload_n hx hb dX1_readPart_36 rfl (lv_at hl 1 rfl) ?_
      refine lv_icmp_eq (tgt := 42) hx hb dX1_readPart_37 (by decide) (fun c14 => ?_) (fun c14 => ?_)
      · have h := xt c14 h
        refine lv_aload_n hx hb dX1_readPart_42 rfl (lv_at hl 0 rfl) ?_
        refine lv_dup hx hb dX1_readPart_43 rfl ?_
        refine va_get (D := D) (v := .int t.2.2.1) (C := RX1) (T := TX1) (N := 6) hx hb hts iw_X1 hown hK hP 0 rfl rfl 2 (by decide) (hts _ mw_57) (fun _ h9 => h9) rfl dX1_readPart_44 ?_
        refine lv_iconst (v := 1) hx hb dX1_readPart_47 (by decide) ?_
        refine lv_iadd hx hb dX1_readPart_48 ?_
        refine va_put (D := D) (v := .int (t.2.2.1 + (1 : Int32))) (ty := .int) (C := RX1) (T := TX1) (N := 6) hx hb hts iw_X1 tyX1 tyX1_ok nmX1 hown hK hP hD hS 0 rfl rfl 2 (by decide) (hts _ mw_57) (fun _ h9 => h9) rfl (by decide +kernel) rfl rfl (Nat.le_of_ble_eq_true rfl) dX1_readPart_49 (fun H locs hP hD hS => ?_)
        have hP : va_P D vwCl (wPd cI o sg nm (P2 t (t.2.2.1 + (1 : Int32)))) H := hP
        have hD : va_D (va_A (wPd cI o sg nm t) s.heap.size) (wPd cI o sg nm (P2 t (t.2.2.1 + (1 : Int32)))) := hD
        refine lv_iconst (v := 1) hx hb dX1_readPart_52 (by decide) ?_
        cases h
        exact x_retM C0 narrow_b1 hP hD hS dX1_readPart_53
      · have h := xf c14 h
        refine lv_iconst (v := 0) hx hb dX1_readPart_40 (by decide) ?_
        cases h
        exact x_retM C0 narrow_b0 hP hD hS dX1_readPart_41
    · have h := xt c11 h
      refine lv_aload_n hx hb dX1_readPart_12 rfl (lv_at hl 0 rfl) ?_
      refine lv_iload_n hx hb dX1_readPart_13 rfl (lv_at hl 1 rfl) ?_
      refine lv_bipush (v := 110) hx hb dX1_readPart_14 (by decide) ?_
      refine lv_icmp_ne (tgt := 23) hx hb dX1_readPart_16 (by decide) (fun c15 => ?_) (fun c15 => ?_)
      · have h := xf c15 h
        refine lv_iconst (v := 1) hx hb dX1_readPart_23 (by decide) ?_
        obtain ⟨x16, h17, h⟩ := bE h
        refine x_MV (As := [.int (1 : Int32)]) (rest := []) (wr := []) (W1 := wPd cI o sg nm x16.2) hF (c_X1_readNumber l D cI cZ cT _ o sg nm t (1 : Int32) x16 h17) (cwV 1 hts (gqV mw_130 mw_131 mw_132 mw_70 mw_120) rfl rfl rfl hd_X1_readNumber ⟨Nat.le_of_ble_eq_true rfl, Nat.le_of_ble_eq_true rfl⟩) hK hP hD hS hA q_T_bl (fun _ _ _ => trivial) [0, 1, 2] [] [0, 1, 2] rfl rfl ⟨rfl, rfl, rfl, rfl⟩ rfl rfl rfl rfl hl.1 rfl (Nat.le_of_ble_eq_true rfl) dX1_readPart_24 ⟨Nat.zero_le _, Nat.zero_le _⟩ (fun H locs hP hD hS => ?_)
        obtain ⟨x18, h19, h⟩ := bE h
        obtain ⟨hz, ex18⟩ := gb_e h19
        subst ex18
        cases h
        exact x_retM C0 (x_nz hz) hP hD hS dX1_readPart_27
      · have h := xt c15 h
        refine lv_iconst (v := 2) hx hb dX1_readPart_19 (by decide) ?_
        refine lv_goto (tgt := 24) hx hb dX1_readPart_20 (by decide) ?_
        obtain ⟨x20, h21, h⟩ := bE h
        refine x_MV (As := [.int (2 : Int32)]) (rest := []) (wr := []) (W1 := wPd cI o sg nm x20.2) hF (c_X1_readNumber l D cI cZ cT _ o sg nm t (2 : Int32) x20 h21) (cwV 1 hts (gqV mw_130 mw_131 mw_132 mw_70 mw_120) rfl rfl rfl hd_X1_readNumber ⟨Nat.le_of_ble_eq_true rfl, Nat.le_of_ble_eq_true rfl⟩) hK hP hD hS hA q_T_bl (fun _ _ _ => trivial) [0, 1, 2] [] [0, 1, 2] rfl rfl ⟨rfl, rfl, rfl, rfl⟩ rfl rfl rfl rfl hl.1 rfl (Nat.le_of_ble_eq_true rfl) dX1_readPart_24 ⟨Nat.zero_le _, Nat.zero_le _⟩ (fun H locs hP hD hS => ?_)
        obtain ⟨x22, h23, h⟩ := bE h
        obtain ⟨hz, ex22⟩ := gb_e h23
        subst ex22
        cases h
        exact x_retM C0 (x_nz hz) hP hD hS dX1_readPart_27

/-! QuarrelWays.Pad.stepOverSemicolon ()V -/
def f_X1_stepOverSemicolon (t : PP) : Option (PP) := ((f_X1_signAt t t.2.2.1).bind fun x1 => (if x1 = (59 : Int32) then some (P2 t (t.2.2.1 + (1 : Int32))) else some t))
abbrev rm_X1_stepOverSemicolon : Room := { frames := 1, cells := 0, slots := 0, locals := 21 }
theorem hd_X1_stepOverSemicolon : yX1_stepOverSemicolon.cls = RX1 ∧ yX1_stepOverSemicolon.cls ≠ "java/lang/invoke/MethodHandle" ∧ yX1_stepOverSemicolon.cls ≠ "java/lang/invoke/VarHandle" ∧ (parseMethodDescriptor yX1_stepOverSemicolon.desc).map (fun d => d.parameters.length) = some 0 := by decide +kernel
set_option maxHeartbeats 4000000 in
set_option maxRecDepth 100000 in
theorem c_X1_stepOverSemicolon (l : Launch) (D : va_G) (cI cZ cT : ClassId) (sz : Nat) (o sg nm : Nat) (t : PP) (r : PP) (h : f_X1_stepOverSemicolon t = some r) : Met l yX1_stepOverSemicolon (wq yX1_stepOverSemicolon cX1_stepOverSemicolon 1 none) rm_X1_stepOverSemicolon (q_M D (q_tys cI cZ cT) sz (wPd cI o sg nm t) q_T [.ref o]) (va_Qv (fun _ => True) (q_B D (wPd cI o sg nm t) sz (wPd cI o sg nm r)) (va_A (wPd cI o sg nm t) sz)) 0 0 (va_A (wPd cI o sg nm t) sz) := by
  refine q_MI (cc := cX1_stepOverSemicolon) (maxL := 1) (ret := none) (E := fun sz => q_T) (Qc := fun sz => (va_Qv (fun _ => True) (q_B D (wPd cI o sg nm t) sz (wPd cI o sg nm r)) (va_A (wPd cI o sg nm t) sz))) (free := fun sz => va_A (wPd cI o sg nm t) sz) (plainFor_of_name (by decide)) (Nat.le_of_ble_eq_true rfl) (fun p e s m below meth c C0 hname hP hK hD hE ls hl => ?_)
  have hA : ∀ q, s.heap.size ≤ q → (va_A (wPd cI o sg nm t) s.heap.size) q := fun _ => Or.inr
  have hS : va_S (va_A (wPd cI o sg nm t) s.heap.size) s.heap s.heap [] := va_S.rf
  have hl : lv_has ls 1 [(0, .ref o)] := hl
  obtain ⟨hx, hb, hr, hml, hown, hts, hlocks⟩ := id C0
  have hF : CallFix p m c cX1_stepOverSemicolon 1 s _ BW RX1 := ⟨hx, hb, hml, hown, hts⟩
  rw [f_X1_stepOverSemicolon] at h
  refine lv_aload_n hx hb dX1_stepOverSemicolon_0 rfl (lv_at hl 0 rfl) ?_
  refine lv_aload_n hx hb dX1_stepOverSemicolon_1 rfl (lv_at hl 0 rfl) ?_
  refine va_get (D := D) (v := .int t.2.2.1) (C := RX1) (T := TX1) (N := 6) hx hb hts iw_X1 hown hK hP 0 rfl rfl 2 (by decide) (hts _ mw_57) (fun _ h9 => h9) rfl dX1_stepOverSemicolon_2 ?_
  obtain ⟨x1, h2, h⟩ := bE h
  refine x_RV (As := [.int t.2.2.1]) (rest := []) hF (c_X1_signAt l D cI cZ cT o sg nm t t.2.2.1 x1 h2) (cwV 1 hts (gqV mw_121 mw_122 mw_123 mw_70 mw_71) rfl rfl rfl hd_X1_signAt ⟨Nat.le_of_ble_eq_true rfl, Nat.le_of_ble_eq_true rfl⟩) hK hP q_T_bl (fun _ _ _ => trivial) [0, 1, 2] rfl rfl rfl rfl hl.1 rfl (Nat.le_of_ble_eq_true rfl) dX1_stepOverSemicolon_5 ⟨Nat.zero_le _, Nat.zero_le _⟩ ?_
  refine lv_bipush (v := 59) hx hb dX1_stepOverSemicolon_8 (by decide) ?_
  refine lv_icmp_ne (tgt := 23) hx hb dX1_stepOverSemicolon_10 (by decide) (fun c3 => ?_) (fun c3 => ?_)
  · have h := xf c3 h
    cases h
    exact x_retV C0 hP hD hS dX1_stepOverSemicolon_23
  · have h := xt c3 h
    refine lv_aload_n hx hb dX1_stepOverSemicolon_13 rfl (lv_at hl 0 rfl) ?_
    refine lv_dup hx hb dX1_stepOverSemicolon_14 rfl ?_
    refine va_get (D := D) (v := .int t.2.2.1) (C := RX1) (T := TX1) (N := 6) hx hb hts iw_X1 hown hK hP 0 rfl rfl 2 (by decide) (hts _ mw_57) (fun _ h9 => h9) rfl dX1_stepOverSemicolon_15 ?_
    refine lv_iconst (v := 1) hx hb dX1_stepOverSemicolon_18 (by decide) ?_
    refine lv_iadd hx hb dX1_stepOverSemicolon_19 ?_
    refine va_put (D := D) (v := .int (t.2.2.1 + (1 : Int32))) (ty := .int) (C := RX1) (T := TX1) (N := 6) hx hb hts iw_X1 tyX1 tyX1_ok nmX1 hown hK hP hD hS 0 rfl rfl 2 (by decide) (hts _ mw_57) (fun _ h9 => h9) rfl (by decide +kernel) rfl rfl (Nat.le_of_ble_eq_true rfl) dX1_stepOverSemicolon_20 (fun H locs hP hD hS => ?_)
    have hP : va_P D vwCl (wPd cI o sg nm (P2 t (t.2.2.1 + (1 : Int32)))) H := hP
    have hD : va_D (va_A (wPd cI o sg nm t) s.heap.size) (wPd cI o sg nm (P2 t (t.2.2.1 + (1 : Int32)))) := hD
    cases h
    exact x_retV C0 hP hD hS dX1_stepOverSemicolon_23

/-! QuarrelWays.Pad.formOf (I)Ljava/lang/String; -/
def f_X1_formOf (a0 : Int32) : Option (Nat) := (if a0 = (97 : Int32) then some 5 else (if a0 = (98 : Int32) then some 6 else (if a0 = (99 : Int32) then some 6 else (if a0 = (100 : Int32) then some 6 else (if a0 = (101 : Int32) then some 6 else (if a0 = (102 : Int32) then some 4 else (if a0 = (103 : Int32) then some 6 else (if a0 = (104 : Int32) then some 6 else (if a0 = (105 : Int32) then some 2 else (if a0 = (106 : Int32) then some 6 else (if a0 = (107 : Int32) then some 6 else (if a0 = (108 : Int32) then some 6 else (if a0 = (109 : Int32) then some 6 else (if a0 = (110 : Int32) then some 6 else (if a0 = (111 : Int32) then some 5 else (if a0 = (112 : Int32) then some 0 else (if a0 = (113 : Int32) then some 6 else (if a0 = (114 : Int32) then some 6 else (if a0 = (115 : Int32) then some 1 else (if a0 = (116 : Int32) then some 4 else (if a0 = (117 : Int32) then some 6 else (if a0 = (118 : Int32) then some 6 else (if a0 = (119 : Int32) then some 3 else some 6)))))))))))))))))))))))
abbrev rm_X1_formOf : Room := { frames := 0, cells := 0, slots := 0, locals := 0 }
theorem hd_X1_formOf : yX1_formOf.cls = RX1 ∧ yX1_formOf.cls ≠ "java/lang/invoke/MethodHandle" ∧ yX1_formOf.cls ≠ "java/lang/invoke/VarHandle" ∧ (parseMethodDescriptor yX1_formOf.desc).map (fun d => d.parameters.length) = some 1 := by decide +kernel
set_option maxHeartbeats 4000000 in
set_option maxRecDepth 100000 in
theorem c_X1_formOf (l : Launch) (D : va_G) (cI cZ cT : ClassId) (G : q_G) (A : Nat → Prop) (a0 : Int32) (r : Nat) (h : f_X1_formOf a0 = some r) : Met l yX1_formOf (wq yX1_formOf cX1_formOf 1 (some (.object "java/lang/String"))) rm_X1_formOf (q_R D (q_tys cI cZ cT) ([]) (q_E G A) [.int a0]) (va_Sr (fun k => k = r) (fun k => .ref (G.1 k))) 0 0 (fun _ => False) := by
  refine q_RI (cc := cX1_formOf) (maxL := 1) (ret := (some (.object "java/lang/String"))) (plainFor_of_name (by decide)) (Nat.le_of_ble_eq_true rfl) (fun p e s m below meth c C0 hP hK hE ls hl => ?_)
  have hE : q_E G A s := hE
  have hS : va_S A s.heap s.heap [] := va_S.rf
  have hl : lv_has ls 1 [(0, .int a0)] := hl
  obtain ⟨hx, hb, hr, hml, hown, hts, hlocks⟩ := id C0
  have hF : CallFix p m c cX1_formOf 1 s _ BW RX1 := ⟨hx, hb, hml, hown, hts⟩
  rw [f_X1_formOf] at h
  refine lv_iload_n hx hb dX1_formOf_0 rfl (lv_at hl 0 rfl) ?_
  by_cases c2 : a0 = (97 : Int32)
  · have h := xt c2 h
    refine lv_tableIn (tgt := 129) hx hb dX1_formOf_1 (by rw [c2]; decide) (by rw [c2]; decide) (off := 128) (by rw [c2]; rfl) (by decide) ?_
    refine va_ldcS hx hb hown (hE.2.2.1 5 (by decide)) dX1_formOf_129 ?_
    cases h
    exact x_retS C0 dX1_formOf_131
  have h := xf c2 h
  by_cases c3 : a0 = (98 : Int32)
  · have h := xt c3 h
    refine lv_tableIn (tgt := 132) hx hb dX1_formOf_1 (by rw [c3]; decide) (by rw [c3]; decide) (off := 131) (by rw [c3]; rfl) (by decide) ?_
    refine va_ldcS hx hb hown (hE.2.2.1 6 (by decide)) dX1_formOf_132 ?_
    cases h
    exact x_retS C0 dX1_formOf_134
  have h := xf c3 h
  by_cases c4 : a0 = (99 : Int32)
  · have h := xt c4 h
    refine lv_tableIn (tgt := 132) hx hb dX1_formOf_1 (by rw [c4]; decide) (by rw [c4]; decide) (off := 131) (by rw [c4]; rfl) (by decide) ?_
    refine va_ldcS hx hb hown (hE.2.2.1 6 (by decide)) dX1_formOf_132 ?_
    cases h
    exact x_retS C0 dX1_formOf_134
  have h := xf c4 h
  by_cases c5 : a0 = (100 : Int32)
  · have h := xt c5 h
    refine lv_tableIn (tgt := 132) hx hb dX1_formOf_1 (by rw [c5]; decide) (by rw [c5]; decide) (off := 131) (by rw [c5]; rfl) (by decide) ?_
    refine va_ldcS hx hb hown (hE.2.2.1 6 (by decide)) dX1_formOf_132 ?_
    cases h
    exact x_retS C0 dX1_formOf_134
  have h := xf c5 h
  by_cases c6 : a0 = (101 : Int32)
  · have h := xt c6 h
    refine lv_tableIn (tgt := 132) hx hb dX1_formOf_1 (by rw [c6]; decide) (by rw [c6]; decide) (off := 131) (by rw [c6]; rfl) (by decide) ?_
    refine va_ldcS hx hb hown (hE.2.2.1 6 (by decide)) dX1_formOf_132 ?_
    cases h
    exact x_retS C0 dX1_formOf_134
  have h := xf c6 h
  by_cases c7 : a0 = (102 : Int32)
  · have h := xt c7 h
    refine lv_tableIn (tgt := 120) hx hb dX1_formOf_1 (by rw [c7]; decide) (by rw [c7]; decide) (off := 119) (by rw [c7]; rfl) (by decide) ?_
    refine va_ldcS hx hb hown (hE.2.2.1 4 (by decide)) dX1_formOf_120 ?_
    cases h
    exact x_retS C0 dX1_formOf_122
  have h := xf c7 h
  by_cases c8 : a0 = (103 : Int32)
  · have h := xt c8 h
    refine lv_tableIn (tgt := 132) hx hb dX1_formOf_1 (by rw [c8]; decide) (by rw [c8]; decide) (off := 131) (by rw [c8]; rfl) (by decide) ?_
    refine va_ldcS hx hb hown (hE.2.2.1 6 (by decide)) dX1_formOf_132 ?_
    cases h
    exact x_retS C0 dX1_formOf_134
  have h := xf c8 h
  by_cases c9 : a0 = (104 : Int32)
  · have h := xt c9 h
    refine lv_tableIn (tgt := 132) hx hb dX1_formOf_1 (by rw [c9]; decide) (by rw [c9]; decide) (off := 131) (by rw [c9]; rfl) (by decide) ?_
    refine va_ldcS hx hb hown (hE.2.2.1 6 (by decide)) dX1_formOf_132 ?_
    cases h
    exact x_retS C0 dX1_formOf_134
  have h := xf c9 h
  by_cases c10 : a0 = (105 : Int32)
  · have h := xt c10 h
    refine lv_tableIn (tgt := 114) hx hb dX1_formOf_1 (by rw [c10]; decide) (by rw [c10]; decide) (off := 113) (by rw [c10]; rfl) (by decide) ?_
    refine va_ldcS hx hb hown (hE.2.2.1 2 (by decide)) dX1_formOf_114 ?_
    cases h
    exact x_retS C0 dX1_formOf_116
  have h := xf c10 h
  by_cases c11 : a0 = (106 : Int32)
  · have h := xt c11 h
    refine lv_tableIn (tgt := 132) hx hb dX1_formOf_1 (by rw [c11]; decide) (by rw [c11]; decide) (off := 131) (by rw [c11]; rfl) (by decide) ?_
    refine va_ldcS hx hb hown (hE.2.2.1 6 (by decide)) dX1_formOf_132 ?_
    cases h
    exact x_retS C0 dX1_formOf_134
  have h := xf c11 h
  by_cases c12 : a0 = (107 : Int32)
  · have h := xt c12 h
    refine lv_tableIn (tgt := 132) hx hb dX1_formOf_1 (by rw [c12]; decide) (by rw [c12]; decide) (off := 131) (by rw [c12]; rfl) (by decide) ?_
    refine va_ldcS hx hb hown (hE.2.2.1 6 (by decide)) dX1_formOf_132 ?_
    cases h
    exact x_retS C0 dX1_formOf_134
  have h := xf c12 h
  by_cases c13 : a0 = (108 : Int32)
  · have h := xt c13 h
    refine lv_tableIn (tgt := 132) hx hb dX1_formOf_1 (by rw [c13]; decide) (by rw [c13]; decide) (off := 131) (by rw [c13]; rfl) (by decide) ?_
    refine va_ldcS hx hb hown (hE.2.2.1 6 (by decide)) dX1_formOf_132 ?_
    cases h
    exact x_retS C0 dX1_formOf_134
  have h := xf c13 h
  by_cases c14 : a0 = (109 : Int32)
  · have h := xt c14 h
    refine lv_tableIn (tgt := 132) hx hb dX1_formOf_1 (by rw [c14]; decide) (by rw [c14]; decide) (off := 131) (by rw [c14]; rfl) (by decide) ?_
    refine va_ldcS hx hb hown (hE.2.2.1 6 (by decide)) dX1_formOf_132 ?_
    cases h
    exact x_retS C0 dX1_formOf_134
  have h := xf c14 h
  by_cases c15 : a0 = (110 : Int32)
  · have h := xt c15 h
    refine lv_tableIn (tgt := 132) hx hb dX1_formOf_1 (by rw [c15]; decide) (by rw [c15]; decide) (off := 131) (by rw [c15]; rfl) (by decide) ?_
    refine va_ldcS hx hb hown (hE.2.2.1 6 (by decide)) dX1_formOf_132 ?_
    cases h
    exact x_retS C0 dX1_formOf_134
  have h := xf c15 h
  by_cases c16 : a0 = (111 : Int32)
  · have h := xt c16 h
    refine lv_tableIn (tgt := 123) hx hb dX1_formOf_1 (by rw [c16]; decide) (by rw [c16]; decide) (off := 122) (by rw [c16]; rfl) (by decide) ?_
    refine va_ldcS hx hb hown (hE.2.2.1 5 (by decide)) dX1_formOf_123 ?_
    cases h
    exact x_retS C0 dX1_formOf_125
  have h := xf c16 h
  by_cases c17 : a0 = (112 : Int32)
  · have h := xt c17 h
    refine lv_tableIn (tgt := 108) hx hb dX1_formOf_1 (by rw [c17]; decide) (by rw [c17]; decide) (off := 107) (by rw [c17]; rfl) (by decide) ?_
    refine va_ldcS hx hb hown (hE.2.2.1 0 (by decide)) dX1_formOf_108 ?_
    cases h
    exact x_retS C0 dX1_formOf_110
  have h := xf c17 h
  by_cases c18 : a0 = (113 : Int32)
  · have h := xt c18 h
    refine lv_tableIn (tgt := 132) hx hb dX1_formOf_1 (by rw [c18]; decide) (by rw [c18]; decide) (off := 131) (by rw [c18]; rfl) (by decide) ?_
    refine va_ldcS hx hb hown (hE.2.2.1 6 (by decide)) dX1_formOf_132 ?_
    cases h
    exact x_retS C0 dX1_formOf_134
  have h := xf c18 h
  by_cases c19 : a0 = (114 : Int32)
  · have h := xt c19 h
    refine lv_tableIn (tgt := 132) hx hb dX1_formOf_1 (by rw [c19]; decide) (by rw [c19]; decide) (off := 131) (by rw [c19]; rfl) (by decide) ?_
    refine va_ldcS hx hb hown (hE.2.2.1 6 (by decide)) dX1_formOf_132 ?_
    cases h
    exact x_retS C0 dX1_formOf_134
  have h := xf c19 h
  by_cases c20 : a0 = (115 : Int32)
  · have h := xt c20 h
    refine lv_tableIn (tgt := 111) hx hb dX1_formOf_1 (by rw [c20]; decide) (by rw [c20]; decide) (off := 110) (by rw [c20]; rfl) (by decide) ?_
    refine va_ldcS hx hb hown (hE.2.2.1 1 (by decide)) dX1_formOf_111 ?_
    cases h
    exact x_retS C0 dX1_formOf_113
  have h := xf c20 h
  by_cases c21 : a0 = (116 : Int32)
  · have h := xt c21 h
    refine lv_tableIn (tgt := 126) hx hb dX1_formOf_1 (by rw [c21]; decide) (by rw [c21]; decide) (off := 125) (by rw [c21]; rfl) (by decide) ?_
    refine va_ldcS hx hb hown (hE.2.2.1 4 (by decide)) dX1_formOf_126 ?_
    cases h
    exact x_retS C0 dX1_formOf_128
  have h := xf c21 h
  by_cases c22 : a0 = (117 : Int32)
  · have h := xt c22 h
    refine lv_tableIn (tgt := 132) hx hb dX1_formOf_1 (by rw [c22]; decide) (by rw [c22]; decide) (off := 131) (by rw [c22]; rfl) (by decide) ?_
    refine va_ldcS hx hb hown (hE.2.2.1 6 (by decide)) dX1_formOf_132 ?_
    cases h
    exact x_retS C0 dX1_formOf_134
  have h := xf c22 h
  by_cases c23 : a0 = (118 : Int32)
  · have h := xt c23 h
    refine lv_tableIn (tgt := 132) hx hb dX1_formOf_1 (by rw [c23]; decide) (by rw [c23]; decide) (off := 131) (by rw [c23]; rfl) (by decide) ?_
    refine va_ldcS hx hb hown (hE.2.2.1 6 (by decide)) dX1_formOf_132 ?_
    cases h
    exact x_retS C0 dX1_formOf_134
  have h := xf c23 h
  by_cases c24 : a0 = (119 : Int32)
  · have h := xt c24 h
    refine lv_tableIn (tgt := 117) hx hb dX1_formOf_1 (by rw [c24]; decide) (by rw [c24]; decide) (off := 116) (by rw [c24]; rfl) (by decide) ?_
    refine va_ldcS hx hb hown (hE.2.2.1 3 (by decide)) dX1_formOf_117 ?_
    cases h
    exact x_retS C0 dX1_formOf_119
  have h := xf c24 h
  refine lv_tableOut (tgt := 132) hx hb dX1_formOf_1 (by have := lv_neT c2 (a := 97) rfl; have := lv_neT c3 (a := 98) rfl; have := lv_neT c4 (a := 99) rfl; have := lv_neT c5 (a := 100) rfl; have := lv_neT c6 (a := 101) rfl; have := lv_neT c7 (a := 102) rfl; have := lv_neT c8 (a := 103) rfl; have := lv_neT c9 (a := 104) rfl; have := lv_neT c10 (a := 105) rfl; have := lv_neT c11 (a := 106) rfl; have := lv_neT c12 (a := 107) rfl; have := lv_neT c13 (a := 108) rfl; have := lv_neT c14 (a := 109) rfl; have := lv_neT c15 (a := 110) rfl; have := lv_neT c16 (a := 111) rfl; have := lv_neT c17 (a := 112) rfl; have := lv_neT c18 (a := 113) rfl; have := lv_neT c19 (a := 114) rfl; have := lv_neT c20 (a := 115) rfl; have := lv_neT c21 (a := 116) rfl; have := lv_neT c22 (a := 117) rfl; have := lv_neT c23 (a := 118) rfl; have := lv_neT c24 (a := 119) rfl; omega) (by decide) ?_
  refine va_ldcS hx hb hown (hE.2.2.1 6 (by decide)) dX1_formOf_132 ?_
  cases h
  exact x_retS C0 dX1_formOf_134

end G_S2
theorem formOf_lt {a : Int32} {k : Nat} (h : f_X1_formOf a = some k) : k < 7 := by
  rw [f_X1_formOf] at h
  by_cases c97 : a = (97 : Int32)
  · have h := xt c97 h
    cases h; decide
  have h := xf c97 h
  by_cases c98 : a = (98 : Int32)
  · have h := xt c98 h
    cases h; decide
  have h := xf c98 h
  by_cases c99 : a = (99 : Int32)
  · have h := xt c99 h
    cases h; decide
  have h := xf c99 h
  by_cases c100 : a = (100 : Int32)
  · have h := xt c100 h
    cases h; decide
  have h := xf c100 h
  by_cases c101 : a = (101 : Int32)
  · have h := xt c101 h
    cases h; decide
  have h := xf c101 h
  by_cases c102 : a = (102 : Int32)
  · have h := xt c102 h
    cases h; decide
  have h := xf c102 h
  by_cases c103 : a = (103 : Int32)
  · have h := xt c103 h
    cases h; decide
  have h := xf c103 h
  by_cases c104 : a = (104 : Int32)
  · have h := xt c104 h
    cases h; decide
  have h := xf c104 h
  by_cases c105 : a = (105 : Int32)
  · have h := xt c105 h
    cases h; decide
  have h := xf c105 h
  by_cases c106 : a = (106 : Int32)
  · have h := xt c106 h
    cases h; decide
  have h := xf c106 h
  by_cases c107 : a = (107 : Int32)
  · have h := xt c107 h
    cases h; decide
  have h := xf c107 h
  by_cases c108 : a = (108 : Int32)
  · have h := xt c108 h
    cases h; decide
  have h := xf c108 h
  by_cases c109 : a = (109 : Int32)
  · have h := xt c109 h
    cases h; decide
  have h := xf c109 h
  by_cases c110 : a = (110 : Int32)
  · have h := xt c110 h
    cases h; decide
  have h := xf c110 h
  by_cases c111 : a = (111 : Int32)
  · have h := xt c111 h
    cases h; decide
  have h := xf c111 h
  by_cases c112 : a = (112 : Int32)
  · have h := xt c112 h
    cases h; decide
  have h := xf c112 h
  by_cases c113 : a = (113 : Int32)
  · have h := xt c113 h
    cases h; decide
  have h := xf c113 h
  by_cases c114 : a = (114 : Int32)
  · have h := xt c114 h
    cases h; decide
  have h := xf c114 h
  by_cases c115 : a = (115 : Int32)
  · have h := xt c115 h
    cases h; decide
  have h := xf c115 h
  by_cases c116 : a = (116 : Int32)
  · have h := xt c116 h
    cases h; decide
  have h := xf c116 h
  by_cases c117 : a = (117 : Int32)
  · have h := xt c117 h
    cases h; decide
  have h := xf c117 h
  by_cases c118 : a = (118 : Int32)
  · have h := xt c118 h
    cases h; decide
  have h := xf c118 h
  by_cases c119 : a = (119 : Int32)
  · have h := xt c119 h
    cases h; decide
  have h := xf c119 h
  cases h; decide

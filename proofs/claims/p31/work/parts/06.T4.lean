section G_T4
variable {p : Program} {l : Launch} {e : Env} {s : State} {m : MethodId} {args : Array Value} {below : List Frame} {meth : Method} {c : Code} {D : va_G} {cI cZ cT : ClassId}

/-! QuarrelWays.Town.write (III)V -/
def f_X2_write (t : TT) (a1 : Int32) (a2 : Int32) (a3 : Int32) : Option (TT) := (if (a1 + a2) < 0 then some t else (if (176 : Int32) ≤ (a1 + a2) then some t else ((wr t.2.2.2.2.2 176 (a1 + a2) a3).bind fun g3 => some (T5 t g3))))
abbrev rm_X2_write : Room := { frames := 0, cells := 0, slots := 0, locals := 0 }
theorem hd_X2_write : yX2_write.cls = RX2 ∧ yX2_write.cls ≠ "java/lang/invoke/MethodHandle" ∧ yX2_write.cls ≠ "java/lang/invoke/VarHandle" ∧ (parseMethodDescriptor yX2_write.desc).map (fun d => d.parameters.length) = some 3 := by decide +kernel
set_option maxHeartbeats 4000000 in
set_option maxRecDepth 100000 in
theorem c_X2_write (l : Launch) (D : va_G) (cI cZ cT : ClassId) (sz : Nat) (o a : Nat) (t : TT) (a1 : Int32) (a2 : Int32) (a3 : Int32) (r : TT) (h : f_X2_write t a1 a2 a3 = some r) : Met l yX2_write (wq yX2_write cX2_write 5 none) rm_X2_write (q_M D (q_tys cI cZ cT) sz (wT cI o a t) q_T [.ref o, .int a1, .int a2, .int a3]) (va_Qv (fun _ => True) (q_B D (wT cI o a t) sz (wT cI o a r)) (va_A (wT cI o a t) sz)) 0 0 (va_A (wT cI o a t) sz) := by
  refine q_MI (cc := cX2_write) (maxL := 5) (ret := none) (E := fun sz => q_T) (Qc := fun sz => (va_Qv (fun _ => True) (q_B D (wT cI o a t) sz (wT cI o a r)) (va_A (wT cI o a t) sz))) (free := fun sz => va_A (wT cI o a t) sz) (plainFor_of_name (by decide)) (Nat.le_of_ble_eq_true rfl) (fun p e s m below meth c C0 hname hP hK hD hE ls hl => ?_)
  have hA : ∀ q, s.heap.size ≤ q → (va_A (wT cI o a t) s.heap.size) q := fun _ => Or.inr
  have hS : va_S (va_A (wT cI o a t) s.heap.size) s.heap s.heap [] := va_S.rf
  have hl : lv_has ls 5 [(0, .ref o), (1, .int a1), (2, .int a2), (3, .int a3)] := hl
  obtain ⟨hx, hb, hr, hml, hown, hts, hlocks⟩ := id C0
  have hF : CallFix p m c cX2_write 5 s _ BW RX2 := ⟨hx, hb, hml, hown, hts⟩
  rw [f_X2_write] at h
  refine lv_iload_n hx hb dX2_write_0 rfl (lv_at hl 1 rfl) ?_
  refine lv_iload_n hx hb dX2_write_1 rfl (lv_at hl 2 rfl) ?_
  refine lv_iadd hx hb dX2_write_2 ?_
  refine lv_istore (lv' := [(4, .int (a1 + a2)), (0, .ref o), (1, .int a1), (2, .int a2), (3, .int a3)]) hx hb dX2_write_3 hl (by decide) rfl (fun ls hl => ?_)
  refine lv_iload hx hb dX2_write_5 (lv_at hl 0 rfl) ?_
  refine lv_if_lt (tgt := 28) hx hb dX2_write_7 (by decide) (fun c1 => ?_) (fun c1 => ?_)
  · have h := xt c1 h
    cases h
    exact x_retV C0 hP hD hS dX2_write_28
  · have h := xf c1 h
    refine lv_iload hx hb dX2_write_10 (lv_at hl 0 rfl) ?_
    refine lv_aload_n hx hb dX2_write_12 rfl (lv_at hl 1 rfl) ?_
    refine va_get (D := D) (v := .ref a) (C := RX2) (T := TX2) (N := 6) hx hb hts iw_X2 hown hK hP 0 rfl rfl 5 (by decide) (hts _ mw_1) (fun _ h9 => h9) rfl dX2_write_13 ?_
    refine va_alen hx hb hK hP 1 0 rfl rfl (v := 176) rfl dX2_write_16 ?_
    refine lv_icmp_ge (tgt := 28) hx hb dX2_write_17 (by decide) (fun c2 => ?_) (fun c2 => ?_)
    · have h := xt c2 h
      cases h
      exact x_retV C0 hP hD hS dX2_write_28
    · have h := xf c2 h
      refine lv_aload_n hx hb dX2_write_20 rfl (lv_at hl 1 rfl) ?_
      refine va_get (D := D) (v := .ref a) (C := RX2) (T := TX2) (N := 6) hx hb hts iw_X2 hown hK hP 0 rfl rfl 5 (by decide) (hts _ mw_1) (fun _ h9 => h9) rfl dX2_write_21 ?_
      refine lv_iload hx hb dX2_write_24 (lv_at hl 0 rfl) ?_
      refine lv_iload_n hx hb dX2_write_26 rfl (lv_at hl 4 rfl) ?_
      obtain ⟨g3, h4, h⟩ := bE h
      refine x_iast (cA := cI) hx hb hK hP hD hS 1 0 rfl rfl h4 dX2_write_27 (fun H locs hP hD hS => ?_)
      have hP : va_P D vwCl (wT cI o a (T5 t g3)) H := hP
      have hD : va_D (va_A (wT cI o a t) s.heap.size) (wT cI o a (T5 t g3)) := hD
      cases h
      exact x_retV C0 hP hD hS dX2_write_28

/-! QuarrelWays.Town.addPerson (II)I -/
def f_X2_addPerson (t : TT) (a1 : Int32) (a2 : Int32) : Option (Int32 × TT) := ((f_X2_isPoints a1).bind fun x1 => (if x1 = 0 then some ((-2 : Int32), t) else ((f_X2_isPoints a2).bind fun x4 => (if x4 = 0 then some ((-2 : Int32), t) else (if t.2.2.1 < (10 : Int32) then ((f_X2_write t (4 : Int32) t.2.2.1 a1).bind fun x8 => ((f_X2_write x8 (14 : Int32) t.2.2.1 a2).bind fun x10 => ((f_X2_write x10 (24 : Int32) t.2.2.1 (-6 : Int32)).bind fun x12 => ((f_X2_write x12 (34 : Int32) t.2.2.1 (0 : Int32)).bind fun x14 => some (t.2.2.1, (T2 x14 (x14.2.2.1 + (1 : Int32)))))))) else some ((-4 : Int32), t))))))
abbrev rm_X2_addPerson : Room := { frames := 1, cells := 0, slots := 0, locals := 24 }
theorem hd_X2_addPerson : yX2_addPerson.cls = RX2 ∧ yX2_addPerson.cls ≠ "java/lang/invoke/MethodHandle" ∧ yX2_addPerson.cls ≠ "java/lang/invoke/VarHandle" ∧ (parseMethodDescriptor yX2_addPerson.desc).map (fun d => d.parameters.length) = some 2 := by decide +kernel
set_option maxHeartbeats 4000000 in
set_option maxRecDepth 100000 in
theorem c_X2_addPerson (l : Launch) (D : va_G) (cI cZ cT : ClassId) (sz : Nat) (o a : Nat) (t : TT) (a1 : Int32) (a2 : Int32) (r : Int32 × TT) (h : f_X2_addPerson t a1 a2 = some r) : Met l yX2_addPerson (wq yX2_addPerson cX2_addPerson 4 (some .int)) rm_X2_addPerson (q_M D (q_tys cI cZ cT) sz (wT cI o a t) q_T [.ref o, .int a1, .int a2]) (va_Qi (fun r' _ => r' = r.1) (q_B D (wT cI o a t) sz (wT cI o a r.2)) (va_A (wT cI o a t) sz)) 0 0 (va_A (wT cI o a t) sz) := by
  refine q_MI (cc := cX2_addPerson) (maxL := 4) (ret := (some .int)) (E := fun sz => q_T) (Qc := fun sz => (va_Qi (fun r' _ => r' = r.1) (q_B D (wT cI o a t) sz (wT cI o a r.2)) (va_A (wT cI o a t) sz))) (free := fun sz => va_A (wT cI o a t) sz) (plainFor_of_name (by decide)) (Nat.le_of_ble_eq_true rfl) (fun p e s m below meth c C0 hname hP hK hD hE ls hl => ?_)
  have hA : ∀ q, s.heap.size ≤ q → (va_A (wT cI o a t) s.heap.size) q := fun _ => Or.inr
  have hS : va_S (va_A (wT cI o a t) s.heap.size) s.heap s.heap [] := va_S.rf
  have hl : lv_has ls 4 [(0, .ref o), (1, .int a1), (2, .int a2)] := hl
  obtain ⟨hx, hb, hr, hml, hown, hts, hlocks⟩ := id C0
  have hF : CallFix p m c cX2_addPerson 4 s _ BW RX2 := ⟨hx, hb, hml, hown, hts⟩
  rw [f_X2_addPerson] at h
  refine lv_iload_n hx hb dX2_addPerson_0 rfl (lv_at hl 1 rfl) ?_
  obtain ⟨x1, h2, h⟩ := bE h
  refine x_RS (As := [.int a1]) (rest := []) hF (c_X2_isPoints l D cI cZ cT  a1 x1 h2) (va_cwS 1 hts (gqS mw_81 mw_82 mw_15 mw_74) rfl rfl rfl hd_X2_isPoints.2 ⟨Nat.le_of_ble_eq_true rfl, Nat.le_of_ble_eq_true rfl⟩) hK hP q_T_bl (fun _ _ _ => trivial) [] rfl rfl hl.1 rfl (Nat.le_of_ble_eq_true rfl) dX2_addPerson_1 ⟨Nat.zero_le _, Nat.zero_le _⟩ ?_
  refine lv_if_eq (tgt := 14) hx hb dX2_addPerson_4 (by decide) (fun c3 => ?_) (fun c3 => ?_)
  · have h := xt c3 h
    refine lv_bipush (v := (-2)) hx hb dX2_addPerson_14 (by decide) ?_
    cases h
    exact x_retM C0 rfl hP hD hS dX2_addPerson_16
  · have h := xf c3 h
    refine lv_iload_n hx hb dX2_addPerson_7 rfl (lv_at hl 2 rfl) ?_
    obtain ⟨x4, h5, h⟩ := bE h
    refine x_RS (As := [.int a2]) (rest := []) hF (c_X2_isPoints l D cI cZ cT  a2 x4 h5) (va_cwS 1 hts (gqS mw_81 mw_82 mw_15 mw_74) rfl rfl rfl hd_X2_isPoints.2 ⟨Nat.le_of_ble_eq_true rfl, Nat.le_of_ble_eq_true rfl⟩) hK hP q_T_bl (fun _ _ _ => trivial) [] rfl rfl hl.1 rfl (Nat.le_of_ble_eq_true rfl) dX2_addPerson_8 ⟨Nat.zero_le _, Nat.zero_le _⟩ ?_
    refine lv_if_ne (tgt := 17) hx hb dX2_addPerson_11 (by decide) (fun c6 => ?_) (fun c6 => ?_)
    · have h := xf c6 h
      refine lv_aload_n hx hb dX2_addPerson_17 rfl (lv_at hl 0 rfl) ?_
      refine va_get (D := D) (v := .int t.2.2.1) (C := RX2) (T := TX2) (N := 6) hx hb hts iw_X2 hown hK hP 0 rfl rfl 2 (by decide) (hts _ mw_8) (fun _ h9 => h9) rfl dX2_addPerson_18 ?_
      refine lv_bipush (v := 10) hx hb dX2_addPerson_21 (by decide) ?_
      refine lv_icmp_lt (tgt := 29) hx hb dX2_addPerson_23 (by decide) (fun c7 => ?_) (fun c7 => ?_)
      · have h := xt c7 h
        refine lv_aload_n hx hb dX2_addPerson_29 rfl (lv_at hl 0 rfl) ?_
        refine va_get (D := D) (v := .int t.2.2.1) (C := RX2) (T := TX2) (N := 6) hx hb hts iw_X2 hown hK hP 0 rfl rfl 2 (by decide) (hts _ mw_8) (fun _ h9 => h9) rfl dX2_addPerson_30 ?_
        refine lv_istore_n (lv' := [(3, .int t.2.2.1), (0, .ref o), (1, .int a1), (2, .int a2)]) hx hb dX2_addPerson_33 rfl hl (by decide) rfl (fun ls hl => ?_)
        refine lv_aload_n hx hb dX2_addPerson_34 rfl (lv_at hl 1 rfl) ?_
        refine lv_iconst (v := 4) hx hb dX2_addPerson_35 (by decide) ?_
        refine lv_iload_n hx hb dX2_addPerson_36 rfl (lv_at hl 0 rfl) ?_
        refine lv_iload_n hx hb dX2_addPerson_37 rfl (lv_at hl 2 rfl) ?_
        obtain ⟨x8, h9, h⟩ := bE h
        refine x_VV (As := [.int (4 : Int32), .int t.2.2.1, .int a1]) (rest := []) (wr := []) (W1 := wT cI o a x8) hF (c_X2_write l D cI cZ cT _ o a t (4 : Int32) t.2.2.1 a1 x8 h9) (cwV 3 hts (gqV mw_12 mw_13 mw_14 mw_15 mw_0) rfl rfl rfl hd_X2_write ⟨Nat.le_of_ble_eq_true rfl, Nat.le_of_ble_eq_true rfl⟩) hK hP hD hS hA q_T_bl (fun _ _ _ => trivial) [0, 1] [] [0, 1] rfl rfl ⟨rfl, rfl, rfl, rfl⟩ rfl rfl rfl rfl hl.1 rfl (Nat.le_of_ble_eq_true rfl) dX2_addPerson_38 ⟨Nat.zero_le _, Nat.zero_le _⟩ (fun H locs hP hD hS => ?_)
        refine lv_aload_n hx hb dX2_addPerson_41 rfl (lv_at hl 1 rfl) ?_
        refine lv_bipush (v := 14) hx hb dX2_addPerson_42 (by decide) ?_
        refine lv_iload_n hx hb dX2_addPerson_44 rfl (lv_at hl 0 rfl) ?_
        refine lv_iload_n hx hb dX2_addPerson_45 rfl (lv_at hl 3 rfl) ?_
        obtain ⟨x10, h11, h⟩ := bE h
        refine x_VV (As := [.int (14 : Int32), .int t.2.2.1, .int a2]) (rest := []) (wr := []) (W1 := wT cI o a x10) hF (c_X2_write l D cI cZ cT _ o a x8 (14 : Int32) t.2.2.1 a2 x10 h11) (cwV 3 hts (gqV mw_12 mw_13 mw_14 mw_15 mw_0) rfl rfl rfl hd_X2_write ⟨Nat.le_of_ble_eq_true rfl, Nat.le_of_ble_eq_true rfl⟩) hK hP hD hS hA q_T_bl (fun _ _ _ => trivial) [0, 1] [] [0, 1] rfl rfl ⟨rfl, rfl, rfl, rfl⟩ rfl rfl rfl rfl hl.1 rfl (Nat.le_of_ble_eq_true rfl) dX2_addPerson_46 ⟨Nat.zero_le _, Nat.zero_le _⟩ (fun H locs hP hD hS => ?_)
        refine lv_aload_n hx hb dX2_addPerson_49 rfl (lv_at hl 1 rfl) ?_
        refine lv_bipush (v := 24) hx hb dX2_addPerson_50 (by decide) ?_
        refine lv_iload_n hx hb dX2_addPerson_52 rfl (lv_at hl 0 rfl) ?_
        refine lv_bipush (v := (-6)) hx hb dX2_addPerson_53 (by decide) ?_
        obtain ⟨x12, h13, h⟩ := bE h
        refine x_VV (As := [.int (24 : Int32), .int t.2.2.1, .int (-6 : Int32)]) (rest := []) (wr := []) (W1 := wT cI o a x12) hF (c_X2_write l D cI cZ cT _ o a x10 (24 : Int32) t.2.2.1 (-6 : Int32) x12 h13) (cwV 3 hts (gqV mw_12 mw_13 mw_14 mw_15 mw_0) rfl rfl rfl hd_X2_write ⟨Nat.le_of_ble_eq_true rfl, Nat.le_of_ble_eq_true rfl⟩) hK hP hD hS hA q_T_bl (fun _ _ _ => trivial) [0, 1] [] [0, 1] rfl rfl ⟨rfl, rfl, rfl, rfl⟩ rfl rfl rfl rfl hl.1 rfl (Nat.le_of_ble_eq_true rfl) dX2_addPerson_55 ⟨Nat.zero_le _, Nat.zero_le _⟩ (fun H locs hP hD hS => ?_)
        refine lv_aload_n hx hb dX2_addPerson_58 rfl (lv_at hl 1 rfl) ?_
        refine lv_bipush (v := 34) hx hb dX2_addPerson_59 (by decide) ?_
        refine lv_iload_n hx hb dX2_addPerson_61 rfl (lv_at hl 0 rfl) ?_
        refine lv_iconst (v := 0) hx hb dX2_addPerson_62 (by decide) ?_
        obtain ⟨x14, h15, h⟩ := bE h
        refine x_VV (As := [.int (34 : Int32), .int t.2.2.1, .int (0 : Int32)]) (rest := []) (wr := []) (W1 := wT cI o a x14) hF (c_X2_write l D cI cZ cT _ o a x12 (34 : Int32) t.2.2.1 (0 : Int32) x14 h15) (cwV 3 hts (gqV mw_12 mw_13 mw_14 mw_15 mw_0) rfl rfl rfl hd_X2_write ⟨Nat.le_of_ble_eq_true rfl, Nat.le_of_ble_eq_true rfl⟩) hK hP hD hS hA q_T_bl (fun _ _ _ => trivial) [0, 1] [] [0, 1] rfl rfl ⟨rfl, rfl, rfl, rfl⟩ rfl rfl rfl rfl hl.1 rfl (Nat.le_of_ble_eq_true rfl) dX2_addPerson_63 ⟨Nat.zero_le _, Nat.zero_le _⟩ (fun H locs hP hD hS => ?_)
        refine lv_aload_n hx hb dX2_addPerson_66 rfl (lv_at hl 1 rfl) ?_
        refine lv_dup hx hb dX2_addPerson_67 rfl ?_
        refine va_get (D := D) (v := .int x14.2.2.1) (C := RX2) (T := TX2) (N := 6) hx hb hts iw_X2 hown hK hP 0 rfl rfl 2 (by decide) (hts _ mw_8) (fun _ h9 => h9) rfl dX2_addPerson_68 ?_
        refine lv_iconst (v := 1) hx hb dX2_addPerson_71 (by decide) ?_
        refine lv_iadd hx hb dX2_addPerson_72 ?_
        refine va_put (D := D) (v := .int (x14.2.2.1 + (1 : Int32))) (ty := .int) (C := RX2) (T := TX2) (N := 6) hx hb hts iw_X2 tyX2 tyX2_ok nmX2 hown hK hP hD hS 0 rfl rfl 2 (by decide) (hts _ mw_8) (fun _ h9 => h9) rfl (by decide +kernel) rfl rfl (Nat.le_of_ble_eq_true rfl) dX2_addPerson_73 (fun H locs hP hD hS => ?_)
        have hP : va_P D vwCl (wT cI o a (T2 x14 (x14.2.2.1 + (1 : Int32)))) H := hP
        have hD : va_D (va_A (wT cI o a t) s.heap.size) (wT cI o a (T2 x14 (x14.2.2.1 + (1 : Int32)))) := hD
        refine lv_iload_n hx hb dX2_addPerson_76 rfl (lv_at hl 0 rfl) ?_
        cases h
        exact x_retM C0 rfl hP hD hS dX2_addPerson_77
      · have h := xf c7 h
        refine lv_bipush (v := (-4)) hx hb dX2_addPerson_26 (by decide) ?_
        cases h
        exact x_retM C0 rfl hP hD hS dX2_addPerson_28
    · have h := xt c6 h
      refine lv_bipush (v := (-2)) hx hb dX2_addPerson_14 (by decide) ?_
      cases h
      exact x_retM C0 rfl hP hD hS dX2_addPerson_16

/-! QuarrelWays.Town.takeSecond (II)I -/
def f_X2_takeSecond (t : TT) (a1 : Int32) (a2 : Int32) : Option (Int32 × TT) := ((f_X2_hasPerson t a1).bind fun x1 => (if x1 = 0 then some ((-1 : Int32), t) else ((f_X2_hasPerson t a2).bind fun x4 => (if x4 = 0 then some ((-1 : Int32), t) else (if a1 = a2 then some ((-2 : Int32), t) else ((f_X2_read t (24 : Int32) a1).bind fun x8 => ((f_X2_write t (24 : Int32) a1 a2).bind fun x10 => some (x8, x10))))))))
abbrev rm_X2_takeSecond : Room := { frames := 1, cells := 0, slots := 0, locals := 24 }
theorem hd_X2_takeSecond : yX2_takeSecond.cls = RX2 ∧ yX2_takeSecond.cls ≠ "java/lang/invoke/MethodHandle" ∧ yX2_takeSecond.cls ≠ "java/lang/invoke/VarHandle" ∧ (parseMethodDescriptor yX2_takeSecond.desc).map (fun d => d.parameters.length) = some 2 := by decide +kernel
set_option maxHeartbeats 4000000 in
set_option maxRecDepth 100000 in
theorem c_X2_takeSecond (l : Launch) (D : va_G) (cI cZ cT : ClassId) (sz : Nat) (o a : Nat) (t : TT) (a1 : Int32) (a2 : Int32) (r : Int32 × TT) (h : f_X2_takeSecond t a1 a2 = some r) : Met l yX2_takeSecond (wq yX2_takeSecond cX2_takeSecond 4 (some .int)) rm_X2_takeSecond (q_M D (q_tys cI cZ cT) sz (wT cI o a t) q_T [.ref o, .int a1, .int a2]) (va_Qi (fun r' _ => r' = r.1) (q_B D (wT cI o a t) sz (wT cI o a r.2)) (va_A (wT cI o a t) sz)) 0 0 (va_A (wT cI o a t) sz) := by
  refine q_MI (cc := cX2_takeSecond) (maxL := 4) (ret := (some .int)) (E := fun sz => q_T) (Qc := fun sz => (va_Qi (fun r' _ => r' = r.1) (q_B D (wT cI o a t) sz (wT cI o a r.2)) (va_A (wT cI o a t) sz))) (free := fun sz => va_A (wT cI o a t) sz) (plainFor_of_name (by decide)) (Nat.le_of_ble_eq_true rfl) (fun p e s m below meth c C0 hname hP hK hD hE ls hl => ?_)
  have hA : ∀ q, s.heap.size ≤ q → (va_A (wT cI o a t) s.heap.size) q := fun _ => Or.inr
  have hS : va_S (va_A (wT cI o a t) s.heap.size) s.heap s.heap [] := va_S.rf
  have hl : lv_has ls 4 [(0, .ref o), (1, .int a1), (2, .int a2)] := hl
  obtain ⟨hx, hb, hr, hml, hown, hts, hlocks⟩ := id C0
  have hF : CallFix p m c cX2_takeSecond 4 s _ BW RX2 := ⟨hx, hb, hml, hown, hts⟩
  rw [f_X2_takeSecond] at h
  refine lv_aload_n hx hb dX2_takeSecond_0 rfl (lv_at hl 0 rfl) ?_
  refine lv_iload_n hx hb dX2_takeSecond_1 rfl (lv_at hl 1 rfl) ?_
  obtain ⟨x1, h2, h⟩ := bE h
  refine x_RV (As := [.int a1]) (rest := []) hF (c_X2_hasPerson l D cI cZ cT o a t a1 x1 h2) (cwV 1 hts (gqV mw_84 mw_85 mw_86 mw_15 mw_62) rfl rfl rfl hd_X2_hasPerson ⟨Nat.le_of_ble_eq_true rfl, Nat.le_of_ble_eq_true rfl⟩) hK hP q_T_bl (fun _ _ _ => trivial) [0, 1] rfl rfl rfl rfl hl.1 rfl (Nat.le_of_ble_eq_true rfl) dX2_takeSecond_2 ⟨Nat.zero_le _, Nat.zero_le _⟩ ?_
  refine lv_if_eq (tgt := 16) hx hb dX2_takeSecond_5 (by decide) (fun c3 => ?_) (fun c3 => ?_)
  · have h := xt c3 h
    refine lv_iconst (v := (-1)) hx hb dX2_takeSecond_16 (by decide) ?_
    cases h
    exact x_retM C0 rfl hP hD hS dX2_takeSecond_17
  · have h := xf c3 h
    refine lv_aload_n hx hb dX2_takeSecond_8 rfl (lv_at hl 0 rfl) ?_
    refine lv_iload_n hx hb dX2_takeSecond_9 rfl (lv_at hl 2 rfl) ?_
    obtain ⟨x4, h5, h⟩ := bE h
    refine x_RV (As := [.int a2]) (rest := []) hF (c_X2_hasPerson l D cI cZ cT o a t a2 x4 h5) (cwV 1 hts (gqV mw_84 mw_85 mw_86 mw_15 mw_62) rfl rfl rfl hd_X2_hasPerson ⟨Nat.le_of_ble_eq_true rfl, Nat.le_of_ble_eq_true rfl⟩) hK hP q_T_bl (fun _ _ _ => trivial) [0, 1] rfl rfl rfl rfl hl.1 rfl (Nat.le_of_ble_eq_true rfl) dX2_takeSecond_10 ⟨Nat.zero_le _, Nat.zero_le _⟩ ?_
    refine lv_if_ne (tgt := 18) hx hb dX2_takeSecond_13 (by decide) (fun c6 => ?_) (fun c6 => ?_)
    · have h := xf c6 h
      refine lv_iload_n hx hb dX2_takeSecond_18 rfl (lv_at hl 1 rfl) ?_
      refine lv_iload_n hx hb dX2_takeSecond_19 rfl (lv_at hl 2 rfl) ?_
      refine lv_icmp_ne (tgt := 26) hx hb dX2_takeSecond_20 (by decide) (fun c7 => ?_) (fun c7 => ?_)
      · have h := xf c7 h
        refine lv_aload_n hx hb dX2_takeSecond_26 rfl (lv_at hl 0 rfl) ?_
        refine lv_bipush (v := 24) hx hb dX2_takeSecond_27 (by decide) ?_
        refine lv_iload_n hx hb dX2_takeSecond_29 rfl (lv_at hl 1 rfl) ?_
        obtain ⟨x8, h9, h⟩ := bE h
        refine x_RV (As := [.int (24 : Int32), .int a1]) (rest := []) hF (c_X2_read l D cI cZ cT o a t (24 : Int32) a1 x8 h9) (cwV 2 hts (gqV mw_65 mw_66 mw_67 mw_15 mw_61) rfl rfl rfl hd_X2_read ⟨Nat.le_of_ble_eq_true rfl, Nat.le_of_ble_eq_true rfl⟩) hK hP q_T_bl (fun _ _ _ => trivial) [0, 1] rfl rfl rfl rfl hl.1 rfl (Nat.le_of_ble_eq_true rfl) dX2_takeSecond_30 ⟨Nat.zero_le _, Nat.zero_le _⟩ ?_
        refine lv_istore_n (lv' := [(3, .int x8), (0, .ref o), (1, .int a1), (2, .int a2)]) hx hb dX2_takeSecond_33 rfl hl (by decide) rfl (fun ls hl => ?_)
        refine lv_aload_n hx hb dX2_takeSecond_34 rfl (lv_at hl 1 rfl) ?_
        refine lv_bipush (v := 24) hx hb dX2_takeSecond_35 (by decide) ?_
        refine lv_iload_n hx hb dX2_takeSecond_37 rfl (lv_at hl 2 rfl) ?_
        refine lv_iload_n hx hb dX2_takeSecond_38 rfl (lv_at hl 3 rfl) ?_
        obtain ⟨x10, h11, h⟩ := bE h
        refine x_VV (As := [.int (24 : Int32), .int a1, .int a2]) (rest := []) (wr := []) (W1 := wT cI o a x10) hF (c_X2_write l D cI cZ cT _ o a t (24 : Int32) a1 a2 x10 h11) (cwV 3 hts (gqV mw_12 mw_13 mw_14 mw_15 mw_0) rfl rfl rfl hd_X2_write ⟨Nat.le_of_ble_eq_true rfl, Nat.le_of_ble_eq_true rfl⟩) hK hP hD hS hA q_T_bl (fun _ _ _ => trivial) [0, 1] [] [0, 1] rfl rfl ⟨rfl, rfl, rfl, rfl⟩ rfl rfl rfl rfl hl.1 rfl (Nat.le_of_ble_eq_true rfl) dX2_takeSecond_39 ⟨Nat.zero_le _, Nat.zero_le _⟩ (fun H locs hP hD hS => ?_)
        refine lv_iload_n hx hb dX2_takeSecond_42 rfl (lv_at hl 0 rfl) ?_
        cases h
        exact x_retM C0 rfl hP hD hS dX2_takeSecond_43
      · have h := xt c7 h
        refine lv_bipush (v := (-2)) hx hb dX2_takeSecond_23 (by decide) ?_
        cases h
        exact x_retM C0 rfl hP hD hS dX2_takeSecond_25
    · have h := xt c6 h
      refine lv_iconst (v := (-1)) hx hb dX2_takeSecond_16 (by decide) ?_
      cases h
      exact x_retM C0 rfl hP hD hS dX2_takeSecond_17

/-! QuarrelWays.Town.allowOrBar (I)I -/
def f_X2_allowOrBar (t : TT) (a1 : Int32) : Option (Int32 × TT) := (if a1 < 0 then some ((-1 : Int32), t) else (if a1 < (5 : Int32) then some ((T1 t (t.2.1 ^^^ ((1 : Int32) <<< (a1 &&& 31)))).2.1, (T1 t (t.2.1 ^^^ ((1 : Int32) <<< (a1 &&& 31))))) else some ((-1 : Int32), t)))
abbrev rm_X2_allowOrBar : Room := { frames := 0, cells := 0, slots := 0, locals := 0 }
theorem hd_X2_allowOrBar : yX2_allowOrBar.cls = RX2 ∧ yX2_allowOrBar.cls ≠ "java/lang/invoke/MethodHandle" ∧ yX2_allowOrBar.cls ≠ "java/lang/invoke/VarHandle" ∧ (parseMethodDescriptor yX2_allowOrBar.desc).map (fun d => d.parameters.length) = some 1 := by decide +kernel
set_option maxHeartbeats 4000000 in
set_option maxRecDepth 100000 in
theorem c_X2_allowOrBar (l : Launch) (D : va_G) (cI cZ cT : ClassId) (sz : Nat) (o a : Nat) (t : TT) (a1 : Int32) (r : Int32 × TT) (h : f_X2_allowOrBar t a1 = some r) : Met l yX2_allowOrBar (wq yX2_allowOrBar cX2_allowOrBar 2 (some .int)) rm_X2_allowOrBar (q_M D (q_tys cI cZ cT) sz (wT cI o a t) q_T [.ref o, .int a1]) (va_Qi (fun r' _ => r' = r.1) (q_B D (wT cI o a t) sz (wT cI o a r.2)) (va_A (wT cI o a t) sz)) 0 0 (va_A (wT cI o a t) sz) := by
  refine q_MI (cc := cX2_allowOrBar) (maxL := 2) (ret := (some .int)) (E := fun sz => q_T) (Qc := fun sz => (va_Qi (fun r' _ => r' = r.1) (q_B D (wT cI o a t) sz (wT cI o a r.2)) (va_A (wT cI o a t) sz))) (free := fun sz => va_A (wT cI o a t) sz) (plainFor_of_name (by decide)) (Nat.le_of_ble_eq_true rfl) (fun p e s m below meth c C0 hname hP hK hD hE ls hl => ?_)
  have hA : ∀ q, s.heap.size ≤ q → (va_A (wT cI o a t) s.heap.size) q := fun _ => Or.inr
  have hS : va_S (va_A (wT cI o a t) s.heap.size) s.heap s.heap [] := va_S.rf
  have hl : lv_has ls 2 [(0, .ref o), (1, .int a1)] := hl
  obtain ⟨hx, hb, hr, hml, hown, hts, hlocks⟩ := id C0
  have hF : CallFix p m c cX2_allowOrBar 2 s _ BW RX2 := ⟨hx, hb, hml, hown, hts⟩
  rw [f_X2_allowOrBar] at h
  refine lv_iload_n hx hb dX2_allowOrBar_0 rfl (lv_at hl 1 rfl) ?_
  refine lv_if_lt (tgt := 9) hx hb dX2_allowOrBar_1 (by decide) (fun c1 => ?_) (fun c1 => ?_)
  · have h := xt c1 h
    refine lv_iconst (v := (-1)) hx hb dX2_allowOrBar_9 (by decide) ?_
    cases h
    exact x_retM C0 rfl hP hD hS dX2_allowOrBar_10
  · have h := xf c1 h
    refine lv_iload_n hx hb dX2_allowOrBar_4 rfl (lv_at hl 1 rfl) ?_
    refine lv_iconst (v := 5) hx hb dX2_allowOrBar_5 (by decide) ?_
    refine lv_icmp_lt (tgt := 11) hx hb dX2_allowOrBar_6 (by decide) (fun c2 => ?_) (fun c2 => ?_)
    · have h := xt c2 h
      refine lv_aload_n hx hb dX2_allowOrBar_11 rfl (lv_at hl 0 rfl) ?_
      refine lv_dup hx hb dX2_allowOrBar_12 rfl ?_
      refine va_get (D := D) (v := .int t.2.1) (C := RX2) (T := TX2) (N := 6) hx hb hts iw_X2 hown hK hP 0 rfl rfl 1 (by decide) (hts _ mw_7) (fun _ h9 => h9) rfl dX2_allowOrBar_13 ?_
      refine lv_iconst (v := 1) hx hb dX2_allowOrBar_16 (by decide) ?_
      refine lv_iload_n hx hb dX2_allowOrBar_17 rfl (lv_at hl 1 rfl) ?_
      refine lv_ishl hx hb dX2_allowOrBar_18 ?_
      refine lv_ixor hx hb dX2_allowOrBar_19 ?_
      refine va_put (D := D) (v := .int (t.2.1 ^^^ ((1 : Int32) <<< (a1 &&& 31)))) (ty := .int) (C := RX2) (T := TX2) (N := 6) hx hb hts iw_X2 tyX2 tyX2_ok nmX2 hown hK hP hD hS 0 rfl rfl 1 (by decide) (hts _ mw_7) (fun _ h9 => h9) rfl (by decide +kernel) rfl rfl (Nat.le_of_ble_eq_true rfl) dX2_allowOrBar_20 (fun H locs hP hD hS => ?_)
      have hP : va_P D vwCl (wT cI o a (T1 t (t.2.1 ^^^ ((1 : Int32) <<< (a1 &&& 31))))) H := hP
      have hD : va_D (va_A (wT cI o a t) s.heap.size) (wT cI o a (T1 t (t.2.1 ^^^ ((1 : Int32) <<< (a1 &&& 31))))) := hD
      refine lv_aload_n hx hb dX2_allowOrBar_23 rfl (lv_at hl 0 rfl) ?_
      refine va_get (D := D) (v := .int ((T1 t (t.2.1 ^^^ ((1 : Int32) <<< (a1 &&& 31)))).2.1)) (C := RX2) (T := TX2) (N := 6) hx hb hts iw_X2 hown hK hP 0 rfl rfl 1 (by decide) (hts _ mw_7) (fun _ h9 => h9) rfl dX2_allowOrBar_24 ?_
      cases h
      exact x_retM C0 rfl hP hD hS dX2_allowOrBar_27
    · have h := xf c2 h
      refine lv_iconst (v := (-1)) hx hb dX2_allowOrBar_9 (by decide) ?_
      cases h
      exact x_retM C0 rfl hP hD hS dX2_allowOrBar_10

/-! QuarrelWays.Town.addPoints (III)V -/
def f_X2_addPoints (t : TT) (a1 : Int32) (a2 : Int32) (a3 : Int32) : Option (TT) := ((f_X2_read t a1 a2).bind fun x1 => ((f_X2_write t a1 a2 (if (0 : Int32) < (if (x1 + a3) < (9 : Int32) then (x1 + a3) else (9 : Int32)) then (if (x1 + a3) < (9 : Int32) then (x1 + a3) else (9 : Int32)) else (0 : Int32))).bind fun x3 => some x3))
abbrev rm_X2_addPoints : Room := { frames := 1, cells := 0, slots := 0, locals := 24 }
theorem hd_X2_addPoints : yX2_addPoints.cls = RX2 ∧ yX2_addPoints.cls ≠ "java/lang/invoke/MethodHandle" ∧ yX2_addPoints.cls ≠ "java/lang/invoke/VarHandle" ∧ (parseMethodDescriptor yX2_addPoints.desc).map (fun d => d.parameters.length) = some 3 := by decide +kernel
set_option maxHeartbeats 4000000 in
set_option maxRecDepth 100000 in
theorem c_X2_addPoints (l : Launch) (D : va_G) (cI cZ cT : ClassId) (sz : Nat) (o a : Nat) (t : TT) (a1 : Int32) (a2 : Int32) (a3 : Int32) (r : TT) (h : f_X2_addPoints t a1 a2 a3 = some r) : Met l yX2_addPoints (wq yX2_addPoints cX2_addPoints 5 none) rm_X2_addPoints (q_M D (q_tys cI cZ cT) sz (wT cI o a t) q_T [.ref o, .int a1, .int a2, .int a3]) (va_Qv (fun _ => True) (q_B D (wT cI o a t) sz (wT cI o a r)) (va_A (wT cI o a t) sz)) 0 0 (va_A (wT cI o a t) sz) := by
  refine q_MI (cc := cX2_addPoints) (maxL := 5) (ret := none) (E := fun sz => q_T) (Qc := fun sz => (va_Qv (fun _ => True) (q_B D (wT cI o a t) sz (wT cI o a r)) (va_A (wT cI o a t) sz))) (free := fun sz => va_A (wT cI o a t) sz) (plainFor_of_name (by decide)) (Nat.le_of_ble_eq_true rfl) (fun p e s m below meth c C0 hname hP hK hD hE ls hl => ?_)
  have hA : ∀ q, s.heap.size ≤ q → (va_A (wT cI o a t) s.heap.size) q := fun _ => Or.inr
  have hS : va_S (va_A (wT cI o a t) s.heap.size) s.heap s.heap [] := va_S.rf
  have hl : lv_has ls 5 [(0, .ref o), (1, .int a1), (2, .int a2), (3, .int a3)] := hl
  obtain ⟨hx, hb, hr, hml, hown, hts, hlocks⟩ := id C0
  have hF : CallFix p m c cX2_addPoints 5 s _ BW RX2 := ⟨hx, hb, hml, hown, hts⟩
  rw [f_X2_addPoints] at h
  refine lv_aload_n hx hb dX2_addPoints_0 rfl (lv_at hl 0 rfl) ?_
  refine lv_iload_n hx hb dX2_addPoints_1 rfl (lv_at hl 1 rfl) ?_
  refine lv_iload_n hx hb dX2_addPoints_2 rfl (lv_at hl 2 rfl) ?_
  obtain ⟨x1, h2, h⟩ := bE h
  refine x_RV (As := [.int a1, .int a2]) (rest := []) hF (c_X2_read l D cI cZ cT o a t a1 a2 x1 h2) (cwV 2 hts (gqV mw_65 mw_66 mw_67 mw_15 mw_61) rfl rfl rfl hd_X2_read ⟨Nat.le_of_ble_eq_true rfl, Nat.le_of_ble_eq_true rfl⟩) hK hP q_T_bl (fun _ _ _ => trivial) [0, 1] rfl rfl rfl rfl hl.1 rfl (Nat.le_of_ble_eq_true rfl) dX2_addPoints_3 ⟨Nat.zero_le _, Nat.zero_le _⟩ ?_
  refine lv_iload_n hx hb dX2_addPoints_6 rfl (lv_at hl 3 rfl) ?_
  refine lv_iadd hx hb dX2_addPoints_7 ?_
  refine lv_istore (lv' := [(4, .int (x1 + a3)), (0, .ref o), (1, .int a1), (2, .int a2), (3, .int a3)]) hx hb dX2_addPoints_8 hl (by decide) rfl (fun ls hl => ?_)
  refine lv_aload_n hx hb dX2_addPoints_10 rfl (lv_at hl 1 rfl) ?_
  refine lv_iload_n hx hb dX2_addPoints_11 rfl (lv_at hl 2 rfl) ?_
  refine lv_iload_n hx hb dX2_addPoints_12 rfl (lv_at hl 3 rfl) ?_
  refine lv_iconst (v := 0) hx hb dX2_addPoints_13 (by decide) ?_
  refine lv_bipush (v := 9) hx hb dX2_addPoints_14 (by decide) ?_
  refine lv_iload hx hb dX2_addPoints_16 (lv_at hl 0 rfl) ?_
  refine va_mmin hx hb (hml.trans hl.1.symm) hown (hts _ mw_35) (hts _ mw_36) (hts _ mw_28) (hts _ mw_37) (Nat.le_of_ble_eq_true rfl) (Nat.le_of_ble_eq_true rfl) (Nat.zero_le _) (Nat.zero_le _) dX2_addPoints_18 ?_
  refine va_mmax hx hb (hml.trans hl.1.symm) hown (hts _ mw_71) (hts _ mw_72) (hts _ mw_28) (hts _ mw_73) (Nat.le_of_ble_eq_true rfl) (Nat.le_of_ble_eq_true rfl) (Nat.zero_le _) (Nat.zero_le _) dX2_addPoints_21 ?_
  obtain ⟨x3, h4, h⟩ := bE h
  refine x_VV (As := [.int a1, .int a2, .int (if (0 : Int32) < (if (x1 + a3) < (9 : Int32) then (x1 + a3) else (9 : Int32)) then (if (x1 + a3) < (9 : Int32) then (x1 + a3) else (9 : Int32)) else (0 : Int32))]) (rest := []) (wr := []) (W1 := wT cI o a x3) hF (c_X2_write l D cI cZ cT _ o a t a1 a2 (if (0 : Int32) < (if (x1 + a3) < (9 : Int32) then (x1 + a3) else (9 : Int32)) then (if (x1 + a3) < (9 : Int32) then (x1 + a3) else (9 : Int32)) else (0 : Int32)) x3 h4) (cwV 3 hts (gqV mw_12 mw_13 mw_14 mw_15 mw_0) rfl rfl rfl hd_X2_write ⟨Nat.le_of_ble_eq_true rfl, Nat.le_of_ble_eq_true rfl⟩) hK hP hD hS hA q_T_bl (fun _ _ _ => trivial) [0, 1] [] [0, 1] rfl rfl ⟨rfl, rfl, rfl, rfl⟩ rfl rfl rfl rfl hl.1 rfl (Nat.le_of_ble_eq_true rfl) dX2_addPoints_24 ⟨Nat.zero_le _, Nat.zero_le _⟩ (fun H locs hP hD hS => ?_)
  cases h
  exact x_retV C0 hP hD hS dX2_addPoints_27

/-! QuarrelWays.Town.bindByOath (I)V -/
def f_X2_bindByOath (t : TT) (a1 : Int32) : Option (TT) := ((f_X2_read t (0 : Int32) (2 : Int32)).bind fun x1 => ((f_X2_read t (34 : Int32) a1).bind fun x3 => ((f_X2_write t (34 : Int32) a1 (if (t.1 + x1) < x3 then x3 else (t.1 + x1))).bind fun x5 => some x5)))
abbrev rm_X2_bindByOath : Room := { frames := 1, cells := 0, slots := 0, locals := 24 }
theorem hd_X2_bindByOath : yX2_bindByOath.cls = RX2 ∧ yX2_bindByOath.cls ≠ "java/lang/invoke/MethodHandle" ∧ yX2_bindByOath.cls ≠ "java/lang/invoke/VarHandle" ∧ (parseMethodDescriptor yX2_bindByOath.desc).map (fun d => d.parameters.length) = some 1 := by decide +kernel
set_option maxHeartbeats 4000000 in
set_option maxRecDepth 100000 in
theorem c_X2_bindByOath (l : Launch) (D : va_G) (cI cZ cT : ClassId) (sz : Nat) (o a : Nat) (t : TT) (a1 : Int32) (r : TT) (h : f_X2_bindByOath t a1 = some r) : Met l yX2_bindByOath (wq yX2_bindByOath cX2_bindByOath 3 none) rm_X2_bindByOath (q_M D (q_tys cI cZ cT) sz (wT cI o a t) q_T [.ref o, .int a1]) (va_Qv (fun _ => True) (q_B D (wT cI o a t) sz (wT cI o a r)) (va_A (wT cI o a t) sz)) 0 0 (va_A (wT cI o a t) sz) := by
  refine q_MI (cc := cX2_bindByOath) (maxL := 3) (ret := none) (E := fun sz => q_T) (Qc := fun sz => (va_Qv (fun _ => True) (q_B D (wT cI o a t) sz (wT cI o a r)) (va_A (wT cI o a t) sz))) (free := fun sz => va_A (wT cI o a t) sz) (plainFor_of_name (by decide)) (Nat.le_of_ble_eq_true rfl) (fun p e s m below meth c C0 hname hP hK hD hE ls hl => ?_)
  have hA : ∀ q, s.heap.size ≤ q → (va_A (wT cI o a t) s.heap.size) q := fun _ => Or.inr
  have hS : va_S (va_A (wT cI o a t) s.heap.size) s.heap s.heap [] := va_S.rf
  have hl : lv_has ls 3 [(0, .ref o), (1, .int a1)] := hl
  obtain ⟨hx, hb, hr, hml, hown, hts, hlocks⟩ := id C0
  have hF : CallFix p m c cX2_bindByOath 3 s _ BW RX2 := ⟨hx, hb, hml, hown, hts⟩
  rw [f_X2_bindByOath] at h
  refine lv_aload_n hx hb dX2_bindByOath_0 rfl (lv_at hl 0 rfl) ?_
  refine va_get (D := D) (v := .int t.1) (C := RX2) (T := TX2) (N := 6) hx hb hts iw_X2 hown hK hP 0 rfl rfl 0 (by decide) (hts _ mw_6) (fun _ h9 => h9) rfl dX2_bindByOath_1 ?_
  refine lv_aload_n hx hb dX2_bindByOath_4 rfl (lv_at hl 0 rfl) ?_
  refine lv_iconst (v := 0) hx hb dX2_bindByOath_5 (by decide) ?_
  refine lv_iconst (v := 2) hx hb dX2_bindByOath_6 (by decide) ?_
  obtain ⟨x1, h2, h⟩ := bE h
  refine x_RV (As := [.int (0 : Int32), .int (2 : Int32)]) (rest := [.int t.1]) hF (c_X2_read l D cI cZ cT o a t (0 : Int32) (2 : Int32) x1 h2) (cwV 2 hts (gqV mw_65 mw_66 mw_67 mw_15 mw_61) rfl rfl rfl hd_X2_read ⟨Nat.le_of_ble_eq_true rfl, Nat.le_of_ble_eq_true rfl⟩) hK hP q_T_bl (fun _ _ _ => trivial) [0, 1] rfl rfl rfl rfl hl.1 rfl (Nat.le_of_ble_eq_true rfl) dX2_bindByOath_7 ⟨Nat.zero_le _, Nat.zero_le _⟩ ?_
  refine lv_iadd hx hb dX2_bindByOath_10 ?_
  refine lv_istore_n (lv' := [(2, .int (t.1 + x1)), (0, .ref o), (1, .int a1)]) hx hb dX2_bindByOath_11 rfl hl (by decide) rfl (fun ls hl => ?_)
  refine lv_aload_n hx hb dX2_bindByOath_12 rfl (lv_at hl 1 rfl) ?_
  refine lv_bipush (v := 34) hx hb dX2_bindByOath_13 (by decide) ?_
  refine lv_iload_n hx hb dX2_bindByOath_15 rfl (lv_at hl 2 rfl) ?_
  refine lv_iload_n hx hb dX2_bindByOath_16 rfl (lv_at hl 0 rfl) ?_
  refine lv_aload_n hx hb dX2_bindByOath_17 rfl (lv_at hl 1 rfl) ?_
  refine lv_bipush (v := 34) hx hb dX2_bindByOath_18 (by decide) ?_
  refine lv_iload_n hx hb dX2_bindByOath_20 rfl (lv_at hl 2 rfl) ?_
  obtain ⟨x3, h4, h⟩ := bE h
  refine x_RV (As := [.int (34 : Int32), .int a1]) (rest := [.int (t.1 + x1), .int a1, .int (34 : Int32), .ref o]) hF (c_X2_read l D cI cZ cT o a t (34 : Int32) a1 x3 h4) (cwV 2 hts (gqV mw_65 mw_66 mw_67 mw_15 mw_61) rfl rfl rfl hd_X2_read ⟨Nat.le_of_ble_eq_true rfl, Nat.le_of_ble_eq_true rfl⟩) hK hP q_T_bl (fun _ _ _ => trivial) [0, 1] rfl rfl rfl rfl hl.1 rfl (Nat.le_of_ble_eq_true rfl) dX2_bindByOath_21 ⟨Nat.zero_le _, Nat.zero_le _⟩ ?_
  refine va_mmax hx hb (hml.trans hl.1.symm) hown (hts _ mw_71) (hts _ mw_72) (hts _ mw_28) (hts _ mw_73) (Nat.le_of_ble_eq_true rfl) (Nat.le_of_ble_eq_true rfl) (Nat.zero_le _) (Nat.zero_le _) dX2_bindByOath_24 ?_
  obtain ⟨x5, h6, h⟩ := bE h
  refine x_VV (As := [.int (34 : Int32), .int a1, .int (if (t.1 + x1) < x3 then x3 else (t.1 + x1))]) (rest := []) (wr := []) (W1 := wT cI o a x5) hF (c_X2_write l D cI cZ cT _ o a t (34 : Int32) a1 (if (t.1 + x1) < x3 then x3 else (t.1 + x1)) x5 h6) (cwV 3 hts (gqV mw_12 mw_13 mw_14 mw_15 mw_0) rfl rfl rfl hd_X2_write ⟨Nat.le_of_ble_eq_true rfl, Nat.le_of_ble_eq_true rfl⟩) hK hP hD hS hA q_T_bl (fun _ _ _ => trivial) [0, 1] [] [0, 1] rfl rfl ⟨rfl, rfl, rfl, rfl⟩ rfl rfl rfl rfl hl.1 rfl (Nat.le_of_ble_eq_true rfl) dX2_bindByOath_27 ⟨Nat.zero_le _, Nat.zero_le _⟩ (fun H locs hP hD hS => ?_)
  cases h
  exact x_retV C0 hP hD hS dX2_bindByOath_30

/-! QuarrelWays.Town.addEvent (II)V -/
def f_X2_addEvent (t : TT) (a1 : Int32) (a2 : Int32) : Option (TT) := ((f_J9_floorMod_7cf53 t.2.2.2.2.1 (12 : Int32)).bind fun x1 => ((f_X2_write t (140 : Int32) x1 a1).bind fun x3 => ((f_X2_write x3 (152 : Int32) x1 x3.1).bind fun x5 => ((f_X2_write x5 (164 : Int32) x1 a2).bind fun x7 => some (T4 x7 (x7.2.2.2.2.1 + (1 : Int32)))))))
abbrev rm_X2_addEvent : Room := { frames := 1, cells := 0, slots := 0, locals := 24 }
theorem hd_X2_addEvent : yX2_addEvent.cls = RX2 ∧ yX2_addEvent.cls ≠ "java/lang/invoke/MethodHandle" ∧ yX2_addEvent.cls ≠ "java/lang/invoke/VarHandle" ∧ (parseMethodDescriptor yX2_addEvent.desc).map (fun d => d.parameters.length) = some 2 := by decide +kernel
set_option maxHeartbeats 4000000 in
set_option maxRecDepth 100000 in
theorem c_X2_addEvent (l : Launch) (D : va_G) (cI cZ cT : ClassId) (sz : Nat) (o a : Nat) (t : TT) (a1 : Int32) (a2 : Int32) (r : TT) (h : f_X2_addEvent t a1 a2 = some r) : Met l yX2_addEvent (wq yX2_addEvent cX2_addEvent 4 none) rm_X2_addEvent (q_M D (q_tys cI cZ cT) sz (wT cI o a t) q_T [.ref o, .int a1, .int a2]) (va_Qv (fun _ => True) (q_B D (wT cI o a t) sz (wT cI o a r)) (va_A (wT cI o a t) sz)) 0 0 (va_A (wT cI o a t) sz) := by
  refine q_MI (cc := cX2_addEvent) (maxL := 4) (ret := none) (E := fun sz => q_T) (Qc := fun sz => (va_Qv (fun _ => True) (q_B D (wT cI o a t) sz (wT cI o a r)) (va_A (wT cI o a t) sz))) (free := fun sz => va_A (wT cI o a t) sz) (plainFor_of_name (by decide)) (Nat.le_of_ble_eq_true rfl) (fun p e s m below meth c C0 hname hP hK hD hE ls hl => ?_)
  have hA : ∀ q, s.heap.size ≤ q → (va_A (wT cI o a t) s.heap.size) q := fun _ => Or.inr
  have hS : va_S (va_A (wT cI o a t) s.heap.size) s.heap s.heap [] := va_S.rf
  have hl : lv_has ls 4 [(0, .ref o), (1, .int a1), (2, .int a2)] := hl
  obtain ⟨hx, hb, hr, hml, hown, hts, hlocks⟩ := id C0
  have hF : CallFix p m c cX2_addEvent 4 s _ BW RX2 := ⟨hx, hb, hml, hown, hts⟩
  rw [f_X2_addEvent] at h
  refine lv_aload_n hx hb dX2_addEvent_0 rfl (lv_at hl 0 rfl) ?_
  refine va_get (D := D) (v := .int t.2.2.2.2.1) (C := RX2) (T := TX2) (N := 6) hx hb hts iw_X2 hown hK hP 0 rfl rfl 4 (by decide) (hts _ mw_10) (fun _ h9 => h9) rfl dX2_addEvent_1 ?_
  refine lv_bipush (v := 12) hx hb dX2_addEvent_4 (by decide) ?_
  obtain ⟨x1, h2, h⟩ := bE h
  refine x_RS (As := [.int t.2.2.2.2.1, .int (12 : Int32)]) (rest := []) hF (c_J9_floorMod_7cf53 l D cI cZ cT  t.2.2.2.2.1 (12 : Int32) x1 h2) (va_cwS 2 hts (gqS mw_98 mw_27 mw_28 mw_24) rfl rfl rfl hd_J9_floorMod_7cf53.2 ⟨Nat.le_of_ble_eq_true rfl, Nat.le_of_ble_eq_true rfl⟩) hK hP q_T_bl (fun _ _ _ => trivial) [] rfl rfl hl.1 rfl (Nat.le_of_ble_eq_true rfl) dX2_addEvent_6 ⟨Nat.zero_le _, Nat.zero_le _⟩ ?_
  refine lv_istore_n (lv' := [(3, .int x1), (0, .ref o), (1, .int a1), (2, .int a2)]) hx hb dX2_addEvent_9 rfl hl (by decide) rfl (fun ls hl => ?_)
  refine lv_aload_n hx hb dX2_addEvent_10 rfl (lv_at hl 1 rfl) ?_
  refine lv_sipush (v := 140) hx hb dX2_addEvent_11 (by decide) ?_
  refine lv_iload_n hx hb dX2_addEvent_14 rfl (lv_at hl 0 rfl) ?_
  refine lv_iload_n hx hb dX2_addEvent_15 rfl (lv_at hl 2 rfl) ?_
  obtain ⟨x3, h4, h⟩ := bE h
  refine x_VV (As := [.int (140 : Int32), .int x1, .int a1]) (rest := []) (wr := []) (W1 := wT cI o a x3) hF (c_X2_write l D cI cZ cT _ o a t (140 : Int32) x1 a1 x3 h4) (cwV 3 hts (gqV mw_12 mw_13 mw_14 mw_15 mw_0) rfl rfl rfl hd_X2_write ⟨Nat.le_of_ble_eq_true rfl, Nat.le_of_ble_eq_true rfl⟩) hK hP hD hS hA q_T_bl (fun _ _ _ => trivial) [0, 1] [] [0, 1] rfl rfl ⟨rfl, rfl, rfl, rfl⟩ rfl rfl rfl rfl hl.1 rfl (Nat.le_of_ble_eq_true rfl) dX2_addEvent_16 ⟨Nat.zero_le _, Nat.zero_le _⟩ (fun H locs hP hD hS => ?_)
  refine lv_aload_n hx hb dX2_addEvent_19 rfl (lv_at hl 1 rfl) ?_
  refine lv_sipush (v := 152) hx hb dX2_addEvent_20 (by decide) ?_
  refine lv_iload_n hx hb dX2_addEvent_23 rfl (lv_at hl 0 rfl) ?_
  refine lv_aload_n hx hb dX2_addEvent_24 rfl (lv_at hl 1 rfl) ?_
  refine va_get (D := D) (v := .int x3.1) (C := RX2) (T := TX2) (N := 6) hx hb hts iw_X2 hown hK hP 0 rfl rfl 0 (by decide) (hts _ mw_6) (fun _ h9 => h9) rfl dX2_addEvent_25 ?_
  obtain ⟨x5, h6, h⟩ := bE h
  refine x_VV (As := [.int (152 : Int32), .int x1, .int x3.1]) (rest := []) (wr := []) (W1 := wT cI o a x5) hF (c_X2_write l D cI cZ cT _ o a x3 (152 : Int32) x1 x3.1 x5 h6) (cwV 3 hts (gqV mw_12 mw_13 mw_14 mw_15 mw_0) rfl rfl rfl hd_X2_write ⟨Nat.le_of_ble_eq_true rfl, Nat.le_of_ble_eq_true rfl⟩) hK hP hD hS hA q_T_bl (fun _ _ _ => trivial) [0, 1] [] [0, 1] rfl rfl ⟨rfl, rfl, rfl, rfl⟩ rfl rfl rfl rfl hl.1 rfl (Nat.le_of_ble_eq_true rfl) dX2_addEvent_28 ⟨Nat.zero_le _, Nat.zero_le _⟩ (fun H locs hP hD hS => ?_)
  refine lv_aload_n hx hb dX2_addEvent_31 rfl (lv_at hl 1 rfl) ?_
  refine lv_sipush (v := 164) hx hb dX2_addEvent_32 (by decide) ?_
  refine lv_iload_n hx hb dX2_addEvent_35 rfl (lv_at hl 0 rfl) ?_
  refine lv_iload_n hx hb dX2_addEvent_36 rfl (lv_at hl 3 rfl) ?_
  obtain ⟨x7, h8, h⟩ := bE h
  refine x_VV (As := [.int (164 : Int32), .int x1, .int a2]) (rest := []) (wr := []) (W1 := wT cI o a x7) hF (c_X2_write l D cI cZ cT _ o a x5 (164 : Int32) x1 a2 x7 h8) (cwV 3 hts (gqV mw_12 mw_13 mw_14 mw_15 mw_0) rfl rfl rfl hd_X2_write ⟨Nat.le_of_ble_eq_true rfl, Nat.le_of_ble_eq_true rfl⟩) hK hP hD hS hA q_T_bl (fun _ _ _ => trivial) [0, 1] [] [0, 1] rfl rfl ⟨rfl, rfl, rfl, rfl⟩ rfl rfl rfl rfl hl.1 rfl (Nat.le_of_ble_eq_true rfl) dX2_addEvent_37 ⟨Nat.zero_le _, Nat.zero_le _⟩ (fun H locs hP hD hS => ?_)
  refine lv_aload_n hx hb dX2_addEvent_40 rfl (lv_at hl 1 rfl) ?_
  refine lv_dup hx hb dX2_addEvent_41 rfl ?_
  refine va_get (D := D) (v := .int x7.2.2.2.2.1) (C := RX2) (T := TX2) (N := 6) hx hb hts iw_X2 hown hK hP 0 rfl rfl 4 (by decide) (hts _ mw_10) (fun _ h9 => h9) rfl dX2_addEvent_42 ?_
  refine lv_iconst (v := 1) hx hb dX2_addEvent_45 (by decide) ?_
  refine lv_iadd hx hb dX2_addEvent_46 ?_
  refine va_put (D := D) (v := .int (x7.2.2.2.2.1 + (1 : Int32))) (ty := .int) (C := RX2) (T := TX2) (N := 6) hx hb hts iw_X2 tyX2 tyX2_ok nmX2 hown hK hP hD hS 0 rfl rfl 4 (by decide) (hts _ mw_10) (fun _ h9 => h9) rfl (by decide +kernel) rfl rfl (Nat.le_of_ble_eq_true rfl) dX2_addEvent_47 (fun H locs hP hD hS => ?_)
  have hP : va_P D vwCl (wT cI o a (T4 x7 (x7.2.2.2.2.1 + (1 : Int32)))) H := hP
  have hD : va_D (va_A (wT cI o a t) s.heap.size) (wT cI o a (T4 x7 (x7.2.2.2.2.1 + (1 : Int32)))) := hD
  cases h
  exact x_retV C0 hP hD hS dX2_addEvent_50

/-! QuarrelWays.Town.addQuarrel (III)I -/
def f_X2_addQuarrel (t : TT) (a1 : Int32) (a2 : Int32) (a3 : Int32) : Option (Int32 × TT) := ((f_X2_errorOfInsult t a1 a2 a3).bind fun x1 => (if x1 = 0 then ((f_X2_haveOpenQuarrel t a1 a2).bind fun x4 => (if x4 = 0 then (if t.2.2.2.1 < (12 : Int32) then ((f_X2_write t (44 : Int32) t.2.2.2.1 a1).bind fun x8 => ((f_X2_write x8 (56 : Int32) t.2.2.2.1 a2).bind fun x10 => ((f_X2_write x10 (68 : Int32) t.2.2.2.1 a3).bind fun x12 => ((f_X2_write x12 (80 : Int32) t.2.2.2.1 x12.1).bind fun x14 => ((f_X2_write x14 (92 : Int32) t.2.2.2.1 (0 : Int32)).bind fun x16 => ((f_X2_write x16 (104 : Int32) t.2.2.2.1 (-6 : Int32)).bind fun x18 => ((f_X2_write x18 (116 : Int32) t.2.2.2.1 (0 : Int32)).bind fun x20 => ((f_X2_write x20 (128 : Int32) t.2.2.2.1 (-6 : Int32)).bind fun x22 => ((f_X2_addEvent (T3 x22 (x22.2.2.2.1 + (1 : Int32))) (0 : Int32) t.2.2.2.1).bind fun x24 => some (t.2.2.2.1, x24)))))))))) else some ((-4 : Int32), t)) else some ((-5 : Int32), t))) else some (x1, t)))
abbrev rm_X2_addQuarrel : Room := { frames := 3, cells := 0, slots := 0, locals := 67 }
theorem hd_X2_addQuarrel : yX2_addQuarrel.cls = RX2 ∧ yX2_addQuarrel.cls ≠ "java/lang/invoke/MethodHandle" ∧ yX2_addQuarrel.cls ≠ "java/lang/invoke/VarHandle" ∧ (parseMethodDescriptor yX2_addQuarrel.desc).map (fun d => d.parameters.length) = some 3 := by decide +kernel
set_option maxHeartbeats 4000000 in
set_option maxRecDepth 100000 in
theorem c_X2_addQuarrel (l : Launch) (D : va_G) (cI cZ cT : ClassId) (sz : Nat) (o a : Nat) (t : TT) (a1 : Int32) (a2 : Int32) (a3 : Int32) (r : Int32 × TT) (h : f_X2_addQuarrel t a1 a2 a3 = some r) : Met l yX2_addQuarrel (wq yX2_addQuarrel cX2_addQuarrel 6 (some .int)) rm_X2_addQuarrel (q_M D (q_tys cI cZ cT) sz (wT cI o a t) q_T [.ref o, .int a1, .int a2, .int a3]) (va_Qi (fun r' _ => r' = r.1) (q_B D (wT cI o a t) sz (wT cI o a r.2)) (va_A (wT cI o a t) sz)) 0 0 (va_A (wT cI o a t) sz) := by
  refine q_MI (cc := cX2_addQuarrel) (maxL := 6) (ret := (some .int)) (E := fun sz => q_T) (Qc := fun sz => (va_Qi (fun r' _ => r' = r.1) (q_B D (wT cI o a t) sz (wT cI o a r.2)) (va_A (wT cI o a t) sz))) (free := fun sz => va_A (wT cI o a t) sz) (plainFor_of_name (by decide)) (Nat.le_of_ble_eq_true rfl) (fun p e s m below meth c C0 hname hP hK hD hE ls hl => ?_)
  have hA : ∀ q, s.heap.size ≤ q → (va_A (wT cI o a t) s.heap.size) q := fun _ => Or.inr
  have hS : va_S (va_A (wT cI o a t) s.heap.size) s.heap s.heap [] := va_S.rf
  have hl : lv_has ls 6 [(0, .ref o), (1, .int a1), (2, .int a2), (3, .int a3)] := hl
  obtain ⟨hx, hb, hr, hml, hown, hts, hlocks⟩ := id C0
  have hF : CallFix p m c cX2_addQuarrel 6 s _ BW RX2 := ⟨hx, hb, hml, hown, hts⟩
  rw [f_X2_addQuarrel] at h
  refine lv_aload_n hx hb dX2_addQuarrel_0 rfl (lv_at hl 0 rfl) ?_
  refine lv_iload_n hx hb dX2_addQuarrel_1 rfl (lv_at hl 1 rfl) ?_
  refine lv_iload_n hx hb dX2_addQuarrel_2 rfl (lv_at hl 2 rfl) ?_
  refine lv_iload_n hx hb dX2_addQuarrel_3 rfl (lv_at hl 3 rfl) ?_
  obtain ⟨x1, h2, h⟩ := bE h
  refine x_RV (As := [.int a1, .int a2, .int a3]) (rest := []) hF (c_X2_errorOfInsult l D cI cZ cT o a t a1 a2 a3 x1 h2) (cwV 3 hts (gqV mw_99 mw_100 mw_101 mw_15 mw_88) rfl rfl rfl hd_X2_errorOfInsult ⟨Nat.le_of_ble_eq_true rfl, Nat.le_of_ble_eq_true rfl⟩) hK hP q_T_bl (fun _ _ _ => trivial) [0, 1] rfl rfl rfl rfl hl.1 rfl (Nat.le_of_ble_eq_true rfl) dX2_addQuarrel_4 ⟨Nat.zero_le _, Nat.zero_le _⟩ ?_
  refine lv_istore (lv' := [(4, .int x1), (0, .ref o), (1, .int a1), (2, .int a2), (3, .int a3)]) hx hb dX2_addQuarrel_7 hl (by decide) rfl (fun ls hl => ?_)
  refine lv_iload hx hb dX2_addQuarrel_9 (lv_at hl 0 rfl) ?_
  refine lv_if_eq (tgt := 17) hx hb dX2_addQuarrel_11 (by decide) (fun c3 => ?_) (fun c3 => ?_)
  · have h := xt c3 h
    refine lv_aload_n hx hb dX2_addQuarrel_17 rfl (lv_at hl 1 rfl) ?_
    refine lv_iload_n hx hb dX2_addQuarrel_18 rfl (lv_at hl 2 rfl) ?_
    refine lv_iload_n hx hb dX2_addQuarrel_19 rfl (lv_at hl 3 rfl) ?_
    obtain ⟨x4, h5, h⟩ := bE h
    refine x_RV (As := [.int a1, .int a2]) (rest := []) hF (c_X2_haveOpenQuarrel l D cI cZ cT o a t a1 a2 x4 h5) (cwV 2 hts (gqV mw_102 mw_103 mw_104 mw_15 mw_91) rfl rfl rfl hd_X2_haveOpenQuarrel ⟨Nat.le_of_ble_eq_true rfl, Nat.le_of_ble_eq_true rfl⟩) hK hP q_T_bl (fun _ _ _ => trivial) [0, 1] rfl rfl rfl rfl hl.1 rfl (Nat.le_of_ble_eq_true rfl) dX2_addQuarrel_20 ⟨Nat.zero_le _, Nat.zero_le _⟩ ?_
    refine lv_if_eq (tgt := 29) hx hb dX2_addQuarrel_23 (by decide) (fun c6 => ?_) (fun c6 => ?_)
    · have h := xt c6 h
      refine lv_aload_n hx hb dX2_addQuarrel_29 rfl (lv_at hl 1 rfl) ?_
      refine va_get (D := D) (v := .int t.2.2.2.1) (C := RX2) (T := TX2) (N := 6) hx hb hts iw_X2 hown hK hP 0 rfl rfl 3 (by decide) (hts _ mw_9) (fun _ h9 => h9) rfl dX2_addQuarrel_30 ?_
      refine lv_bipush (v := 12) hx hb dX2_addQuarrel_33 (by decide) ?_
      refine lv_icmp_lt (tgt := 41) hx hb dX2_addQuarrel_35 (by decide) (fun c7 => ?_) (fun c7 => ?_)
      · have h := xt c7 h
        refine lv_aload_n hx hb dX2_addQuarrel_41 rfl (lv_at hl 1 rfl) ?_
        refine va_get (D := D) (v := .int t.2.2.2.1) (C := RX2) (T := TX2) (N := 6) hx hb hts iw_X2 hown hK hP 0 rfl rfl 3 (by decide) (hts _ mw_9) (fun _ h9 => h9) rfl dX2_addQuarrel_42 ?_
        refine lv_istore (lv' := [(5, .int t.2.2.2.1), (4, .int x1), (0, .ref o), (1, .int a1), (2, .int a2), (3, .int a3)]) hx hb dX2_addQuarrel_45 hl (by decide) rfl (fun ls hl => ?_)
        refine lv_aload_n hx hb dX2_addQuarrel_47 rfl (lv_at hl 2 rfl) ?_
        refine lv_bipush (v := 44) hx hb dX2_addQuarrel_48 (by decide) ?_
        refine lv_iload hx hb dX2_addQuarrel_50 (lv_at hl 0 rfl) ?_
        refine lv_iload_n hx hb dX2_addQuarrel_52 rfl (lv_at hl 3 rfl) ?_
        obtain ⟨x8, h9, h⟩ := bE h
        refine x_VV (As := [.int (44 : Int32), .int t.2.2.2.1, .int a1]) (rest := []) (wr := []) (W1 := wT cI o a x8) hF (c_X2_write l D cI cZ cT _ o a t (44 : Int32) t.2.2.2.1 a1 x8 h9) (cwV 3 hts (gqV mw_12 mw_13 mw_14 mw_15 mw_0) rfl rfl rfl hd_X2_write ⟨Nat.le_of_ble_eq_true rfl, Nat.le_of_ble_eq_true rfl⟩) hK hP hD hS hA q_T_bl (fun _ _ _ => trivial) [0, 1] [] [0, 1] rfl rfl ⟨rfl, rfl, rfl, rfl⟩ rfl rfl rfl rfl hl.1 rfl (Nat.le_of_ble_eq_true rfl) dX2_addQuarrel_53 ⟨Nat.zero_le _, Nat.zero_le _⟩ (fun H locs hP hD hS => ?_)
        refine lv_aload_n hx hb dX2_addQuarrel_56 rfl (lv_at hl 2 rfl) ?_
        refine lv_bipush (v := 56) hx hb dX2_addQuarrel_57 (by decide) ?_
        refine lv_iload hx hb dX2_addQuarrel_59 (lv_at hl 0 rfl) ?_
        refine lv_iload_n hx hb dX2_addQuarrel_61 rfl (lv_at hl 4 rfl) ?_
        obtain ⟨x10, h11, h⟩ := bE h
        refine x_VV (As := [.int (56 : Int32), .int t.2.2.2.1, .int a2]) (rest := []) (wr := []) (W1 := wT cI o a x10) hF (c_X2_write l D cI cZ cT _ o a x8 (56 : Int32) t.2.2.2.1 a2 x10 h11) (cwV 3 hts (gqV mw_12 mw_13 mw_14 mw_15 mw_0) rfl rfl rfl hd_X2_write ⟨Nat.le_of_ble_eq_true rfl, Nat.le_of_ble_eq_true rfl⟩) hK hP hD hS hA q_T_bl (fun _ _ _ => trivial) [0, 1] [] [0, 1] rfl rfl ⟨rfl, rfl, rfl, rfl⟩ rfl rfl rfl rfl hl.1 rfl (Nat.le_of_ble_eq_true rfl) dX2_addQuarrel_62 ⟨Nat.zero_le _, Nat.zero_le _⟩ (fun H locs hP hD hS => ?_)
        refine lv_aload_n hx hb dX2_addQuarrel_65 rfl (lv_at hl 2 rfl) ?_
        refine lv_bipush (v := 68) hx hb dX2_addQuarrel_66 (by decide) ?_
        refine lv_iload hx hb dX2_addQuarrel_68 (lv_at hl 0 rfl) ?_
        refine lv_iload_n hx hb dX2_addQuarrel_70 rfl (lv_at hl 5 rfl) ?_
        obtain ⟨x12, h13, h⟩ := bE h
        refine x_VV (As := [.int (68 : Int32), .int t.2.2.2.1, .int a3]) (rest := []) (wr := []) (W1 := wT cI o a x12) hF (c_X2_write l D cI cZ cT _ o a x10 (68 : Int32) t.2.2.2.1 a3 x12 h13) (cwV 3 hts (gqV mw_12 mw_13 mw_14 mw_15 mw_0) rfl rfl rfl hd_X2_write ⟨Nat.le_of_ble_eq_true rfl, Nat.le_of_ble_eq_true rfl⟩) hK hP hD hS hA q_T_bl (fun _ _ _ => trivial) [0, 1] [] [0, 1] rfl rfl ⟨rfl, rfl, rfl, rfl⟩ rfl rfl rfl rfl hl.1 rfl (Nat.le_of_ble_eq_true rfl) dX2_addQuarrel_71 ⟨Nat.zero_le _, Nat.zero_le _⟩ (fun H locs hP hD hS => ?_)
        refine lv_aload_n hx hb dX2_addQuarrel_74 rfl (lv_at hl 2 rfl) ?_
        refine lv_bipush (v := 80) hx hb dX2_addQuarrel_75 (by decide) ?_
        refine lv_iload hx hb dX2_addQuarrel_77 (lv_at hl 0 rfl) ?_
        refine lv_aload_n hx hb dX2_addQuarrel_79 rfl (lv_at hl 2 rfl) ?_
        refine va_get (D := D) (v := .int x12.1) (C := RX2) (T := TX2) (N := 6) hx hb hts iw_X2 hown hK hP 0 rfl rfl 0 (by decide) (hts _ mw_6) (fun _ h9 => h9) rfl dX2_addQuarrel_80 ?_
        obtain ⟨x14, h15, h⟩ := bE h
        refine x_VV (As := [.int (80 : Int32), .int t.2.2.2.1, .int x12.1]) (rest := []) (wr := []) (W1 := wT cI o a x14) hF (c_X2_write l D cI cZ cT _ o a x12 (80 : Int32) t.2.2.2.1 x12.1 x14 h15) (cwV 3 hts (gqV mw_12 mw_13 mw_14 mw_15 mw_0) rfl rfl rfl hd_X2_write ⟨Nat.le_of_ble_eq_true rfl, Nat.le_of_ble_eq_true rfl⟩) hK hP hD hS hA q_T_bl (fun _ _ _ => trivial) [0, 1] [] [0, 1] rfl rfl ⟨rfl, rfl, rfl, rfl⟩ rfl rfl rfl rfl hl.1 rfl (Nat.le_of_ble_eq_true rfl) dX2_addQuarrel_83 ⟨Nat.zero_le _, Nat.zero_le _⟩ (fun H locs hP hD hS => ?_)
        refine lv_aload_n hx hb dX2_addQuarrel_86 rfl (lv_at hl 2 rfl) ?_
        refine lv_bipush (v := 92) hx hb dX2_addQuarrel_87 (by decide) ?_
        refine lv_iload hx hb dX2_addQuarrel_89 (lv_at hl 0 rfl) ?_
        refine lv_iconst (v := 0) hx hb dX2_addQuarrel_91 (by decide) ?_
        obtain ⟨x16, h17, h⟩ := bE h
        refine x_VV (As := [.int (92 : Int32), .int t.2.2.2.1, .int (0 : Int32)]) (rest := []) (wr := []) (W1 := wT cI o a x16) hF (c_X2_write l D cI cZ cT _ o a x14 (92 : Int32) t.2.2.2.1 (0 : Int32) x16 h17) (cwV 3 hts (gqV mw_12 mw_13 mw_14 mw_15 mw_0) rfl rfl rfl hd_X2_write ⟨Nat.le_of_ble_eq_true rfl, Nat.le_of_ble_eq_true rfl⟩) hK hP hD hS hA q_T_bl (fun _ _ _ => trivial) [0, 1] [] [0, 1] rfl rfl ⟨rfl, rfl, rfl, rfl⟩ rfl rfl rfl rfl hl.1 rfl (Nat.le_of_ble_eq_true rfl) dX2_addQuarrel_92 ⟨Nat.zero_le _, Nat.zero_le _⟩ (fun H locs hP hD hS => ?_)
        refine lv_aload_n hx hb dX2_addQuarrel_95 rfl (lv_at hl 2 rfl) ?_
        refine lv_bipush (v := 104) hx hb dX2_addQuarrel_96 (by decide) ?_
        refine lv_iload hx hb dX2_addQuarrel_98 (lv_at hl 0 rfl) ?_
        refine lv_bipush (v := (-6)) hx hb dX2_addQuarrel_100 (by decide) ?_
        obtain ⟨x18, h19, h⟩ := bE h
        refine x_VV (As := [.int (104 : Int32), .int t.2.2.2.1, .int (-6 : Int32)]) (rest := []) (wr := []) (W1 := wT cI o a x18) hF (c_X2_write l D cI cZ cT _ o a x16 (104 : Int32) t.2.2.2.1 (-6 : Int32) x18 h19) (cwV 3 hts (gqV mw_12 mw_13 mw_14 mw_15 mw_0) rfl rfl rfl hd_X2_write ⟨Nat.le_of_ble_eq_true rfl, Nat.le_of_ble_eq_true rfl⟩) hK hP hD hS hA q_T_bl (fun _ _ _ => trivial) [0, 1] [] [0, 1] rfl rfl ⟨rfl, rfl, rfl, rfl⟩ rfl rfl rfl rfl hl.1 rfl (Nat.le_of_ble_eq_true rfl) dX2_addQuarrel_102 ⟨Nat.zero_le _, Nat.zero_le _⟩ (fun H locs hP hD hS => ?_)
        refine lv_aload_n hx hb dX2_addQuarrel_105 rfl (lv_at hl 2 rfl) ?_
        refine lv_bipush (v := 116) hx hb dX2_addQuarrel_106 (by decide) ?_
        refine lv_iload hx hb dX2_addQuarrel_108 (lv_at hl 0 rfl) ?_
        refine lv_iconst (v := 0) hx hb dX2_addQuarrel_110 (by decide) ?_
        obtain ⟨x20, h21, h⟩ := bE h
        refine x_VV (As := [.int (116 : Int32), .int t.2.2.2.1, .int (0 : Int32)]) (rest := []) (wr := []) (W1 := wT cI o a x20) hF (c_X2_write l D cI cZ cT _ o a x18 (116 : Int32) t.2.2.2.1 (0 : Int32) x20 h21) (cwV 3 hts (gqV mw_12 mw_13 mw_14 mw_15 mw_0) rfl rfl rfl hd_X2_write ⟨Nat.le_of_ble_eq_true rfl, Nat.le_of_ble_eq_true rfl⟩) hK hP hD hS hA q_T_bl (fun _ _ _ => trivial) [0, 1] [] [0, 1] rfl rfl ⟨rfl, rfl, rfl, rfl⟩ rfl rfl rfl rfl hl.1 rfl (Nat.le_of_ble_eq_true rfl) dX2_addQuarrel_111 ⟨Nat.zero_le _, Nat.zero_le _⟩ (fun H locs hP hD hS => ?_)
        refine lv_aload_n hx hb dX2_addQuarrel_114 rfl (lv_at hl 2 rfl) ?_
        refine lv_sipush (v := 128) hx hb dX2_addQuarrel_115 (by decide) ?_
        refine lv_iload hx hb dX2_addQuarrel_118 (lv_at hl 0 rfl) ?_
        refine lv_bipush (v := (-6)) hx hb dX2_addQuarrel_120 (by decide) ?_
        obtain ⟨x22, h23, h⟩ := bE h
        refine x_VV (As := [.int (128 : Int32), .int t.2.2.2.1, .int (-6 : Int32)]) (rest := []) (wr := []) (W1 := wT cI o a x22) hF (c_X2_write l D cI cZ cT _ o a x20 (128 : Int32) t.2.2.2.1 (-6 : Int32) x22 h23) (cwV 3 hts (gqV mw_12 mw_13 mw_14 mw_15 mw_0) rfl rfl rfl hd_X2_write ⟨Nat.le_of_ble_eq_true rfl, Nat.le_of_ble_eq_true rfl⟩) hK hP hD hS hA q_T_bl (fun _ _ _ => trivial) [0, 1] [] [0, 1] rfl rfl ⟨rfl, rfl, rfl, rfl⟩ rfl rfl rfl rfl hl.1 rfl (Nat.le_of_ble_eq_true rfl) dX2_addQuarrel_122 ⟨Nat.zero_le _, Nat.zero_le _⟩ (fun H locs hP hD hS => ?_)
        refine lv_aload_n hx hb dX2_addQuarrel_125 rfl (lv_at hl 2 rfl) ?_
        refine lv_dup hx hb dX2_addQuarrel_126 rfl ?_
        refine va_get (D := D) (v := .int x22.2.2.2.1) (C := RX2) (T := TX2) (N := 6) hx hb hts iw_X2 hown hK hP 0 rfl rfl 3 (by decide) (hts _ mw_9) (fun _ h9 => h9) rfl dX2_addQuarrel_127 ?_
        refine lv_iconst (v := 1) hx hb dX2_addQuarrel_130 (by decide) ?_
        refine lv_iadd hx hb dX2_addQuarrel_131 ?_
        refine va_put (D := D) (v := .int (x22.2.2.2.1 + (1 : Int32))) (ty := .int) (C := RX2) (T := TX2) (N := 6) hx hb hts iw_X2 tyX2 tyX2_ok nmX2 hown hK hP hD hS 0 rfl rfl 3 (by decide) (hts _ mw_9) (fun _ h9 => h9) rfl (by decide +kernel) rfl rfl (Nat.le_of_ble_eq_true rfl) dX2_addQuarrel_132 (fun H locs hP hD hS => ?_)
        have hP : va_P D vwCl (wT cI o a (T3 x22 (x22.2.2.2.1 + (1 : Int32)))) H := hP
        have hD : va_D (va_A (wT cI o a t) s.heap.size) (wT cI o a (T3 x22 (x22.2.2.2.1 + (1 : Int32)))) := hD
        refine lv_aload_n hx hb dX2_addQuarrel_135 rfl (lv_at hl 2 rfl) ?_
        refine lv_iconst (v := 0) hx hb dX2_addQuarrel_136 (by decide) ?_
        refine lv_iload hx hb dX2_addQuarrel_137 (lv_at hl 0 rfl) ?_
        obtain ⟨x24, h25, h⟩ := bE h
        refine x_VV (As := [.int (0 : Int32), .int t.2.2.2.1]) (rest := []) (wr := []) (W1 := wT cI o a x24) hF (c_X2_addEvent l D cI cZ cT _ o a (T3 x22 (x22.2.2.2.1 + (1 : Int32))) (0 : Int32) t.2.2.2.1 x24 h25) (cwV 2 hts (gqV mw_105 mw_106 mw_107 mw_15 mw_97) rfl rfl rfl hd_X2_addEvent ⟨Nat.le_of_ble_eq_true rfl, Nat.le_of_ble_eq_true rfl⟩) hK hP hD hS hA q_T_bl (fun _ _ _ => trivial) [0, 1] [] [0, 1] rfl rfl ⟨rfl, rfl, rfl, rfl⟩ rfl rfl rfl rfl hl.1 rfl (Nat.le_of_ble_eq_true rfl) dX2_addQuarrel_139 ⟨Nat.zero_le _, Nat.zero_le _⟩ (fun H locs hP hD hS => ?_)
        refine lv_iload hx hb dX2_addQuarrel_142 (lv_at hl 0 rfl) ?_
        cases h
        exact x_retM C0 rfl hP hD hS dX2_addQuarrel_144
      · have h := xf c7 h
        refine lv_bipush (v := (-4)) hx hb dX2_addQuarrel_38 (by decide) ?_
        cases h
        exact x_retM C0 rfl hP hD hS dX2_addQuarrel_40
    · have h := xf c6 h
      refine lv_bipush (v := (-5)) hx hb dX2_addQuarrel_26 (by decide) ?_
      cases h
      exact x_retM C0 rfl hP hD hS dX2_addQuarrel_28
  · have h := xf c3 h
    refine lv_iload hx hb dX2_addQuarrel_14 (lv_at hl 0 rfl) ?_
    cases h
    exact x_retM C0 rfl hP hD hS dX2_addQuarrel_16

/-! QuarrelWays.Town.settleBy (II)I -/
def f_X2_settleBy (t : TT) (a1 : Int32) (a2 : Int32) : Option (Int32 × TT) := ((f_X2_hasQuarrel t a1).bind fun x1 => (if x1 = 0 then some ((-1 : Int32), t) else (if a2 < 0 then some ((-1 : Int32), t) else (if a2 < (5 : Int32) then ((f_X2_waysOf t a1).bind fun x6 => (if (x6 &&& ((1 : Int32) <<< (a2 &&& 31))) = 0 then some ((-5 : Int32), t) else (((if a2 = 0 then ((f_X2_read t (44 : Int32) a1).bind fun x34 => ((f_X2_addPoints t (4 : Int32) x34 (-1 : Int32)).bind fun x36 => some x36)) else (if a2 = (1 : Int32) then ((f_X2_read t (44 : Int32) a1).bind fun x22 => ((f_X2_read t (24 : Int32) x22).bind fun x24 => ((f_X2_addPoints t (14 : Int32) x24 (1 : Int32)).bind fun x26 => ((f_X2_read x26 (56 : Int32) a1).bind fun x28 => ((f_X2_read x26 (24 : Int32) x28).bind fun x30 => ((f_X2_addPoints x26 (14 : Int32) x30 (1 : Int32)).bind fun x32 => some x32)))))) else some t)) : Option (TT)).bind fun v9 => ((f_X2_write v9 (92 : Int32) a1 (1 : Int32)).bind fun x10 => ((f_X2_write x10 (104 : Int32) a1 a2).bind fun x12 => ((f_X2_write x12 (116 : Int32) a1 x12.1).bind fun x14 => ((f_X2_addEvent x14 (1 : Int32) a1).bind fun x16 => ((f_X2_quarrelsWith x16 (92 : Int32) (0 : Int32)).bind fun x18 => some (x18, x16))))))))) else some ((-1 : Int32), t)))))
abbrev rm_X2_settleBy : Room := { frames := 4, cells := 0, slots := 0, locals := 94 }
theorem hd_X2_settleBy : yX2_settleBy.cls = RX2 ∧ yX2_settleBy.cls ≠ "java/lang/invoke/MethodHandle" ∧ yX2_settleBy.cls ≠ "java/lang/invoke/VarHandle" ∧ (parseMethodDescriptor yX2_settleBy.desc).map (fun d => d.parameters.length) = some 2 := by decide +kernel
set_option maxHeartbeats 4000000 in
set_option maxRecDepth 100000 in
theorem c_X2_settleBy (l : Launch) (D : va_G) (cI cZ cT : ClassId) (sz : Nat) (o a : Nat) (t : TT) (a1 : Int32) (a2 : Int32) (r : Int32 × TT) (h : f_X2_settleBy t a1 a2 = some r) : Met l yX2_settleBy (wq yX2_settleBy cX2_settleBy 3 (some .int)) rm_X2_settleBy (q_M D (q_tys cI cZ cT) sz (wT cI o a t) q_T [.ref o, .int a1, .int a2]) (va_Qi (fun r' _ => r' = r.1) (q_B D (wT cI o a t) sz (wT cI o a r.2)) (va_A (wT cI o a t) sz)) 0 0 (va_A (wT cI o a t) sz) := by
  refine q_MI (cc := cX2_settleBy) (maxL := 3) (ret := (some .int)) (E := fun sz => q_T) (Qc := fun sz => (va_Qi (fun r' _ => r' = r.1) (q_B D (wT cI o a t) sz (wT cI o a r.2)) (va_A (wT cI o a t) sz))) (free := fun sz => va_A (wT cI o a t) sz) (plainFor_of_name (by decide)) (Nat.le_of_ble_eq_true rfl) (fun p e s m below meth c C0 hname hP hK hD hE ls hl => ?_)
  have hA : ∀ q, s.heap.size ≤ q → (va_A (wT cI o a t) s.heap.size) q := fun _ => Or.inr
  have hS : va_S (va_A (wT cI o a t) s.heap.size) s.heap s.heap [] := va_S.rf
  have hl : lv_has ls 3 [(0, .ref o), (1, .int a1), (2, .int a2)] := hl
  obtain ⟨hx, hb, hr, hml, hown, hts, hlocks⟩ := id C0
  have hF : CallFix p m c cX2_settleBy 3 s _ BW RX2 := ⟨hx, hb, hml, hown, hts⟩
  rw [f_X2_settleBy] at h
  refine lv_aload_n hx hb dX2_settleBy_0 rfl (lv_at hl 0 rfl) ?_
  refine lv_iload_n hx hb dX2_settleBy_1 rfl (lv_at hl 1 rfl) ?_
  obtain ⟨x1, h2, h⟩ := bE h
  refine x_RV (As := [.int a1]) (rest := []) hF (c_X2_hasQuarrel l D cI cZ cT o a t a1 x1 h2) (cwV 1 hts (gqV mw_134 mw_135 mw_136 mw_15 mw_63) rfl rfl rfl hd_X2_hasQuarrel ⟨Nat.le_of_ble_eq_true rfl, Nat.le_of_ble_eq_true rfl⟩) hK hP q_T_bl (fun _ _ _ => trivial) [0, 1] rfl rfl rfl rfl hl.1 rfl (Nat.le_of_ble_eq_true rfl) dX2_settleBy_2 ⟨Nat.zero_le _, Nat.zero_le _⟩ ?_
  refine lv_if_eq (tgt := 17) hx hb dX2_settleBy_5 (by decide) (fun c3 => ?_) (fun c3 => ?_)
  · have h := xt c3 h
    refine lv_iconst (v := (-1)) hx hb dX2_settleBy_17 (by decide) ?_
    cases h
    exact x_retM C0 rfl hP hD hS dX2_settleBy_18
  · have h := xf c3 h
    refine lv_iload_n hx hb dX2_settleBy_8 rfl (lv_at hl 2 rfl) ?_
    refine lv_if_lt (tgt := 17) hx hb dX2_settleBy_9 (by decide) (fun c4 => ?_) (fun c4 => ?_)
    · have h := xt c4 h
      refine lv_iconst (v := (-1)) hx hb dX2_settleBy_17 (by decide) ?_
      cases h
      exact x_retM C0 rfl hP hD hS dX2_settleBy_18
    · have h := xf c4 h
      refine lv_iload_n hx hb dX2_settleBy_12 rfl (lv_at hl 2 rfl) ?_
      refine lv_iconst (v := 5) hx hb dX2_settleBy_13 (by decide) ?_
      refine lv_icmp_lt (tgt := 19) hx hb dX2_settleBy_14 (by decide) (fun c5 => ?_) (fun c5 => ?_)
      · have h := xt c5 h
        refine lv_aload_n hx hb dX2_settleBy_19 rfl (lv_at hl 0 rfl) ?_
        refine lv_iload_n hx hb dX2_settleBy_20 rfl (lv_at hl 1 rfl) ?_
        obtain ⟨x6, h7, h⟩ := bE h
        refine x_RV (As := [.int a1]) (rest := []) hF (c_X2_waysOf l D cI cZ cT o a t a1 x6 h7) (cwV 1 hts (gqV mw_137 mw_138 mw_139 mw_15 mw_131) rfl rfl rfl hd_X2_waysOf ⟨Nat.le_of_ble_eq_true rfl, Nat.le_of_ble_eq_true rfl⟩) hK hP q_T_bl (fun _ _ _ => trivial) [0, 1] rfl rfl rfl rfl hl.1 rfl (Nat.le_of_ble_eq_true rfl) dX2_settleBy_21 ⟨Nat.zero_le _, Nat.zero_le _⟩ ?_
        refine lv_iconst (v := 1) hx hb dX2_settleBy_24 (by decide) ?_
        refine lv_iload_n hx hb dX2_settleBy_25 rfl (lv_at hl 2 rfl) ?_
        refine lv_ishl hx hb dX2_settleBy_26 ?_
        refine lv_iand hx hb dX2_settleBy_27 ?_
        refine lv_if_ne (tgt := 34) hx hb dX2_settleBy_28 (by decide) (fun c8 => ?_) (fun c8 => ?_)
        · have h := xf c8 h
          refine lv_iload_n hx hb dX2_settleBy_34 rfl (lv_at hl 2 rfl) ?_
          refine x_jM (V := TT) (nL := 3) (D := D) (A := (va_A (wT cI o a t) s.heap.size)) (H0 := s.heap) (fun v9 => [(0, .ref o), (1, .int a1), (2, .int a2)]) 99 (fun v9 => []) (fun v9 => wT cI o a v9) h (fun v9 h H locs ls hP hD hS hl => ?_) (fun v9 h hj => ?_)
          · refine lv_aload_n hx hb dX2_settleBy_99 rfl (lv_at hl 0 rfl) ?_
            refine lv_bipush (v := 92) hx hb dX2_settleBy_100 (by decide) ?_
            refine lv_iload_n hx hb dX2_settleBy_102 rfl (lv_at hl 1 rfl) ?_
            refine lv_iconst (v := 1) hx hb dX2_settleBy_103 (by decide) ?_
            obtain ⟨x10, h11, h⟩ := bE h
            refine x_VV (As := [.int (92 : Int32), .int a1, .int (1 : Int32)]) (rest := []) (wr := []) (W1 := wT cI o a x10) hF (c_X2_write l D cI cZ cT _ o a v9 (92 : Int32) a1 (1 : Int32) x10 h11) (cwV 3 hts (gqV mw_12 mw_13 mw_14 mw_15 mw_0) rfl rfl rfl hd_X2_write ⟨Nat.le_of_ble_eq_true rfl, Nat.le_of_ble_eq_true rfl⟩) hK hP hD hS hA q_T_bl (fun _ _ _ => trivial) [0, 1] [] [0, 1] rfl rfl ⟨rfl, rfl, rfl, rfl⟩ rfl rfl rfl rfl hl.1 rfl (Nat.le_of_ble_eq_true rfl) dX2_settleBy_104 ⟨Nat.zero_le _, Nat.zero_le _⟩ (fun H locs hP hD hS => ?_)
            refine lv_aload_n hx hb dX2_settleBy_107 rfl (lv_at hl 0 rfl) ?_
            refine lv_bipush (v := 104) hx hb dX2_settleBy_108 (by decide) ?_
            refine lv_iload_n hx hb dX2_settleBy_110 rfl (lv_at hl 1 rfl) ?_
            refine lv_iload_n hx hb dX2_settleBy_111 rfl (lv_at hl 2 rfl) ?_
            obtain ⟨x12, h13, h⟩ := bE h
            refine x_VV (As := [.int (104 : Int32), .int a1, .int a2]) (rest := []) (wr := []) (W1 := wT cI o a x12) hF (c_X2_write l D cI cZ cT _ o a x10 (104 : Int32) a1 a2 x12 h13) (cwV 3 hts (gqV mw_12 mw_13 mw_14 mw_15 mw_0) rfl rfl rfl hd_X2_write ⟨Nat.le_of_ble_eq_true rfl, Nat.le_of_ble_eq_true rfl⟩) hK hP hD hS hA q_T_bl (fun _ _ _ => trivial) [0, 1] [] [0, 1] rfl rfl ⟨rfl, rfl, rfl, rfl⟩ rfl rfl rfl rfl hl.1 rfl (Nat.le_of_ble_eq_true rfl) dX2_settleBy_112 ⟨Nat.zero_le _, Nat.zero_le _⟩ (fun H locs hP hD hS => ?_)
            refine lv_aload_n hx hb dX2_settleBy_115 rfl (lv_at hl 0 rfl) ?_
            refine lv_bipush (v := 116) hx hb dX2_settleBy_116 (by decide) ?_
            refine lv_iload_n hx hb dX2_settleBy_118 rfl (lv_at hl 1 rfl) ?_
            refine lv_aload_n hx hb dX2_settleBy_119 rfl (lv_at hl 0 rfl) ?_
            refine va_get (D := D) (v := .int x12.1) (C := RX2) (T := TX2) (N := 6) hx hb hts iw_X2 hown hK hP 0 rfl rfl 0 (by decide) (hts _ mw_6) (fun _ h9 => h9) rfl dX2_settleBy_120 ?_
            obtain ⟨x14, h15, h⟩ := bE h
            refine x_VV (As := [.int (116 : Int32), .int a1, .int x12.1]) (rest := []) (wr := []) (W1 := wT cI o a x14) hF (c_X2_write l D cI cZ cT _ o a x12 (116 : Int32) a1 x12.1 x14 h15) (cwV 3 hts (gqV mw_12 mw_13 mw_14 mw_15 mw_0) rfl rfl rfl hd_X2_write ⟨Nat.le_of_ble_eq_true rfl, Nat.le_of_ble_eq_true rfl⟩) hK hP hD hS hA q_T_bl (fun _ _ _ => trivial) [0, 1] [] [0, 1] rfl rfl ⟨rfl, rfl, rfl, rfl⟩ rfl rfl rfl rfl hl.1 rfl (Nat.le_of_ble_eq_true rfl) dX2_settleBy_123 ⟨Nat.zero_le _, Nat.zero_le _⟩ (fun H locs hP hD hS => ?_)
            refine lv_aload_n hx hb dX2_settleBy_126 rfl (lv_at hl 0 rfl) ?_
            refine lv_iconst (v := 1) hx hb dX2_settleBy_127 (by decide) ?_
            refine lv_iload_n hx hb dX2_settleBy_128 rfl (lv_at hl 1 rfl) ?_
            obtain ⟨x16, h17, h⟩ := bE h
            refine x_VV (As := [.int (1 : Int32), .int a1]) (rest := []) (wr := []) (W1 := wT cI o a x16) hF (c_X2_addEvent l D cI cZ cT _ o a x14 (1 : Int32) a1 x16 h17) (cwV 2 hts (gqV mw_105 mw_106 mw_107 mw_15 mw_97) rfl rfl rfl hd_X2_addEvent ⟨Nat.le_of_ble_eq_true rfl, Nat.le_of_ble_eq_true rfl⟩) hK hP hD hS hA q_T_bl (fun _ _ _ => trivial) [0, 1] [] [0, 1] rfl rfl ⟨rfl, rfl, rfl, rfl⟩ rfl rfl rfl rfl hl.1 rfl (Nat.le_of_ble_eq_true rfl) dX2_settleBy_129 ⟨Nat.zero_le _, Nat.zero_le _⟩ (fun H locs hP hD hS => ?_)
            refine lv_aload_n hx hb dX2_settleBy_132 rfl (lv_at hl 0 rfl) ?_
            refine lv_bipush (v := 92) hx hb dX2_settleBy_133 (by decide) ?_
            refine lv_iconst (v := 0) hx hb dX2_settleBy_135 (by decide) ?_
            obtain ⟨x18, h19, h⟩ := bE h
            refine x_RV (As := [.int (92 : Int32), .int (0 : Int32)]) (rest := []) hF (c_X2_quarrelsWith l D cI cZ cT o a x16 (92 : Int32) (0 : Int32) x18 h19) (cwV 2 hts (gqV mw_143 mw_144 mw_145 mw_15 mw_133) rfl rfl rfl hd_X2_quarrelsWith ⟨Nat.le_of_ble_eq_true rfl, Nat.le_of_ble_eq_true rfl⟩) hK hP q_T_bl (fun _ _ _ => trivial) [0, 1] rfl rfl rfl rfl hl.1 rfl (Nat.le_of_ble_eq_true rfl) dX2_settleBy_136 ⟨Nat.zero_le _, Nat.zero_le _⟩ ?_
            cases h
            exact x_retM C0 rfl hP hD hS dX2_settleBy_139
          · refine lv_if_ne (tgt := 54) hx hb dX2_settleBy_35 (by decide) (fun c20 => ?_) (fun c20 => ?_)
            · have h := xf c20 h
              refine lv_iload_n hx hb dX2_settleBy_54 rfl (lv_at hl 2 rfl) ?_
              refine lv_iconst (v := 1) hx hb dX2_settleBy_55 (by decide) ?_
              refine lv_icmp_ne (tgt := 99) hx hb dX2_settleBy_56 (by decide) (fun c21 => ?_) (fun c21 => ?_)
              · have h := xf c21 h
                cases h
                exact hj _ _ _ hP hD hS (lv_sub hl [0, 1, 2] rfl)
              · have h := xt c21 h
                refine lv_aload_n hx hb dX2_settleBy_59 rfl (lv_at hl 0 rfl) ?_
                refine lv_bipush (v := 14) hx hb dX2_settleBy_60 (by decide) ?_
                refine lv_aload_n hx hb dX2_settleBy_62 rfl (lv_at hl 0 rfl) ?_
                refine lv_bipush (v := 24) hx hb dX2_settleBy_63 (by decide) ?_
                refine lv_aload_n hx hb dX2_settleBy_65 rfl (lv_at hl 0 rfl) ?_
                refine lv_bipush (v := 44) hx hb dX2_settleBy_66 (by decide) ?_
                refine lv_iload_n hx hb dX2_settleBy_68 rfl (lv_at hl 1 rfl) ?_
                obtain ⟨x22, h23, h⟩ := bE h
                refine x_RV (As := [.int (44 : Int32), .int a1]) (rest := [.int (24 : Int32), .ref o, .int (14 : Int32), .ref o]) hF (c_X2_read l D cI cZ cT o a t (44 : Int32) a1 x22 h23) (cwV 2 hts (gqV mw_65 mw_66 mw_67 mw_15 mw_61) rfl rfl rfl hd_X2_read ⟨Nat.le_of_ble_eq_true rfl, Nat.le_of_ble_eq_true rfl⟩) hK hP q_T_bl (fun _ _ _ => trivial) [0, 1] rfl rfl rfl rfl hl.1 rfl (Nat.le_of_ble_eq_true rfl) dX2_settleBy_69 ⟨Nat.zero_le _, Nat.zero_le _⟩ ?_
                obtain ⟨x24, h25, h⟩ := bE h
                refine x_RV (As := [.int (24 : Int32), .int x22]) (rest := [.int (14 : Int32), .ref o]) hF (c_X2_read l D cI cZ cT o a t (24 : Int32) x22 x24 h25) (cwV 2 hts (gqV mw_65 mw_66 mw_67 mw_15 mw_61) rfl rfl rfl hd_X2_read ⟨Nat.le_of_ble_eq_true rfl, Nat.le_of_ble_eq_true rfl⟩) hK hP q_T_bl (fun _ _ _ => trivial) [0, 1] rfl rfl rfl rfl hl.1 rfl (Nat.le_of_ble_eq_true rfl) dX2_settleBy_72 ⟨Nat.zero_le _, Nat.zero_le _⟩ ?_
                refine lv_iconst (v := 1) hx hb dX2_settleBy_75 (by decide) ?_
                obtain ⟨x26, h27, h⟩ := bE h
                refine x_VV (As := [.int (14 : Int32), .int x24, .int (1 : Int32)]) (rest := []) (wr := []) (W1 := wT cI o a x26) hF (c_X2_addPoints l D cI cZ cT _ o a t (14 : Int32) x24 (1 : Int32) x26 h27) (cwV 3 hts (gqV mw_140 mw_141 mw_142 mw_15 mw_132) rfl rfl rfl hd_X2_addPoints ⟨Nat.le_of_ble_eq_true rfl, Nat.le_of_ble_eq_true rfl⟩) hK hP hD hS hA q_T_bl (fun _ _ _ => trivial) [0, 1] [] [0, 1] rfl rfl ⟨rfl, rfl, rfl, rfl⟩ rfl rfl rfl rfl hl.1 rfl (Nat.le_of_ble_eq_true rfl) dX2_settleBy_76 ⟨Nat.zero_le _, Nat.zero_le _⟩ (fun H locs hP hD hS => ?_)
                refine lv_aload_n hx hb dX2_settleBy_79 rfl (lv_at hl 0 rfl) ?_
                refine lv_bipush (v := 14) hx hb dX2_settleBy_80 (by decide) ?_
                refine lv_aload_n hx hb dX2_settleBy_82 rfl (lv_at hl 0 rfl) ?_
                refine lv_bipush (v := 24) hx hb dX2_settleBy_83 (by decide) ?_
                refine lv_aload_n hx hb dX2_settleBy_85 rfl (lv_at hl 0 rfl) ?_
                refine lv_bipush (v := 56) hx hb dX2_settleBy_86 (by decide) ?_
                refine lv_iload_n hx hb dX2_settleBy_88 rfl (lv_at hl 1 rfl) ?_
                obtain ⟨x28, h29, h⟩ := bE h
                refine x_RV (As := [.int (56 : Int32), .int a1]) (rest := [.int (24 : Int32), .ref o, .int (14 : Int32), .ref o]) hF (c_X2_read l D cI cZ cT o a x26 (56 : Int32) a1 x28 h29) (cwV 2 hts (gqV mw_65 mw_66 mw_67 mw_15 mw_61) rfl rfl rfl hd_X2_read ⟨Nat.le_of_ble_eq_true rfl, Nat.le_of_ble_eq_true rfl⟩) hK hP q_T_bl (fun _ _ _ => trivial) [0, 1] rfl rfl rfl rfl hl.1 rfl (Nat.le_of_ble_eq_true rfl) dX2_settleBy_89 ⟨Nat.zero_le _, Nat.zero_le _⟩ ?_
                obtain ⟨x30, h31, h⟩ := bE h
                refine x_RV (As := [.int (24 : Int32), .int x28]) (rest := [.int (14 : Int32), .ref o]) hF (c_X2_read l D cI cZ cT o a x26 (24 : Int32) x28 x30 h31) (cwV 2 hts (gqV mw_65 mw_66 mw_67 mw_15 mw_61) rfl rfl rfl hd_X2_read ⟨Nat.le_of_ble_eq_true rfl, Nat.le_of_ble_eq_true rfl⟩) hK hP q_T_bl (fun _ _ _ => trivial) [0, 1] rfl rfl rfl rfl hl.1 rfl (Nat.le_of_ble_eq_true rfl) dX2_settleBy_92 ⟨Nat.zero_le _, Nat.zero_le _⟩ ?_
                refine lv_iconst (v := 1) hx hb dX2_settleBy_95 (by decide) ?_
                obtain ⟨x32, h33, h⟩ := bE h
                refine x_VV (As := [.int (14 : Int32), .int x30, .int (1 : Int32)]) (rest := []) (wr := []) (W1 := wT cI o a x32) hF (c_X2_addPoints l D cI cZ cT _ o a x26 (14 : Int32) x30 (1 : Int32) x32 h33) (cwV 3 hts (gqV mw_140 mw_141 mw_142 mw_15 mw_132) rfl rfl rfl hd_X2_addPoints ⟨Nat.le_of_ble_eq_true rfl, Nat.le_of_ble_eq_true rfl⟩) hK hP hD hS hA q_T_bl (fun _ _ _ => trivial) [0, 1] [] [0, 1] rfl rfl ⟨rfl, rfl, rfl, rfl⟩ rfl rfl rfl rfl hl.1 rfl (Nat.le_of_ble_eq_true rfl) dX2_settleBy_96 ⟨Nat.zero_le _, Nat.zero_le _⟩ (fun H locs hP hD hS => ?_)
                cases h
                exact hj _ _ _ hP hD hS (lv_sub hl [0, 1, 2] rfl)
            · have h := xt c20 h
              refine lv_aload_n hx hb dX2_settleBy_38 rfl (lv_at hl 0 rfl) ?_
              refine lv_iconst (v := 4) hx hb dX2_settleBy_39 (by decide) ?_
              refine lv_aload_n hx hb dX2_settleBy_40 rfl (lv_at hl 0 rfl) ?_
              refine lv_bipush (v := 44) hx hb dX2_settleBy_41 (by decide) ?_
              refine lv_iload_n hx hb dX2_settleBy_43 rfl (lv_at hl 1 rfl) ?_
              obtain ⟨x34, h35, h⟩ := bE h
              refine x_RV (As := [.int (44 : Int32), .int a1]) (rest := [.int (4 : Int32), .ref o]) hF (c_X2_read l D cI cZ cT o a t (44 : Int32) a1 x34 h35) (cwV 2 hts (gqV mw_65 mw_66 mw_67 mw_15 mw_61) rfl rfl rfl hd_X2_read ⟨Nat.le_of_ble_eq_true rfl, Nat.le_of_ble_eq_true rfl⟩) hK hP q_T_bl (fun _ _ _ => trivial) [0, 1] rfl rfl rfl rfl hl.1 rfl (Nat.le_of_ble_eq_true rfl) dX2_settleBy_44 ⟨Nat.zero_le _, Nat.zero_le _⟩ ?_
              refine lv_iconst (v := (-1)) hx hb dX2_settleBy_47 (by decide) ?_
              obtain ⟨x36, h37, h⟩ := bE h
              refine x_VV (As := [.int (4 : Int32), .int x34, .int (-1 : Int32)]) (rest := []) (wr := []) (W1 := wT cI o a x36) hF (c_X2_addPoints l D cI cZ cT _ o a t (4 : Int32) x34 (-1 : Int32) x36 h37) (cwV 3 hts (gqV mw_140 mw_141 mw_142 mw_15 mw_132) rfl rfl rfl hd_X2_addPoints ⟨Nat.le_of_ble_eq_true rfl, Nat.le_of_ble_eq_true rfl⟩) hK hP hD hS hA q_T_bl (fun _ _ _ => trivial) [0, 1] [] [0, 1] rfl rfl ⟨rfl, rfl, rfl, rfl⟩ rfl rfl rfl rfl hl.1 rfl (Nat.le_of_ble_eq_true rfl) dX2_settleBy_48 ⟨Nat.zero_le _, Nat.zero_le _⟩ (fun H locs hP hD hS => ?_)
              refine lv_goto (tgt := 99) hx hb dX2_settleBy_51 (by decide) ?_
              cases h
              exact hj _ _ _ hP hD hS (lv_sub hl [0, 1, 2] rfl)
        · have h := xt c8 h
          refine lv_bipush (v := (-5)) hx hb dX2_settleBy_31 (by decide) ?_
          cases h
          exact x_retM C0 rfl hP hD hS dX2_settleBy_33
      · have h := xf c5 h
        refine lv_iconst (v := (-1)) hx hb dX2_settleBy_17 (by decide) ?_
        cases h
        exact x_retM C0 rfl hP hD hS dX2_settleBy_18

/-! QuarrelWays.Town.duel (I)I -/
def f_X2_duel (t : TT) (a1 : Int32) : Option (Int32 × TT) := ((f_X2_hasQuarrel t a1).bind fun x1 => (if x1 = 0 then some ((-1 : Int32), t) else ((f_X2_waysOf t a1).bind fun x4 => ((f_X2_whyNotDue t a1 x4).bind fun x6 => (if x6 = 0 then ((f_X2_read t (44 : Int32) a1).bind fun x9 => ((f_X2_read t (56 : Int32) a1).bind fun x11 => ((f_X2_winnerOf t a1).bind fun x13 => ((f_X2_addPoints t (4 : Int32) x13 (1 : Int32)).bind fun x15 => (((if x13 = x9 then some x11 else some x9) : Option (Int32)).bind fun v17 => ((f_X2_addPoints x15 (4 : Int32) v17 (-2 : Int32)).bind fun x18 => ((f_X2_bindByOath x18 x9).bind fun x20 => ((f_X2_bindByOath x20 x11).bind fun x22 => ((f_X2_write x22 (92 : Int32) a1 (2 : Int32)).bind fun x24 => ((f_X2_write x24 (128 : Int32) a1 x13).bind fun x26 => ((f_X2_addEvent x26 (2 : Int32) a1).bind fun x28 => some (x13, x28)))))))))))) else some ((-5 : Int32), t))))))
abbrev rm_X2_duel : Room := { frames := 4, cells := 0, slots := 0, locals := 94 }
theorem hd_X2_duel : yX2_duel.cls = RX2 ∧ yX2_duel.cls ≠ "java/lang/invoke/MethodHandle" ∧ yX2_duel.cls ≠ "java/lang/invoke/VarHandle" ∧ (parseMethodDescriptor yX2_duel.desc).map (fun d => d.parameters.length) = some 1 := by decide +kernel
set_option maxHeartbeats 4000000 in
set_option maxRecDepth 100000 in
theorem c_X2_duel (l : Launch) (D : va_G) (cI cZ cT : ClassId) (sz : Nat) (o a : Nat) (t : TT) (a1 : Int32) (r : Int32 × TT) (h : f_X2_duel t a1 = some r) : Met l yX2_duel (wq yX2_duel cX2_duel 5 (some .int)) rm_X2_duel (q_M D (q_tys cI cZ cT) sz (wT cI o a t) q_T [.ref o, .int a1]) (va_Qi (fun r' _ => r' = r.1) (q_B D (wT cI o a t) sz (wT cI o a r.2)) (va_A (wT cI o a t) sz)) 0 0 (va_A (wT cI o a t) sz) := by
  refine q_MI (cc := cX2_duel) (maxL := 5) (ret := (some .int)) (E := fun sz => q_T) (Qc := fun sz => (va_Qi (fun r' _ => r' = r.1) (q_B D (wT cI o a t) sz (wT cI o a r.2)) (va_A (wT cI o a t) sz))) (free := fun sz => va_A (wT cI o a t) sz) (plainFor_of_name (by decide)) (Nat.le_of_ble_eq_true rfl) (fun p e s m below meth c C0 hname hP hK hD hE ls hl => ?_)
  have hA : ∀ q, s.heap.size ≤ q → (va_A (wT cI o a t) s.heap.size) q := fun _ => Or.inr
  have hS : va_S (va_A (wT cI o a t) s.heap.size) s.heap s.heap [] := va_S.rf
  have hl : lv_has ls 5 [(0, .ref o), (1, .int a1)] := hl
  obtain ⟨hx, hb, hr, hml, hown, hts, hlocks⟩ := id C0
  have hF : CallFix p m c cX2_duel 5 s _ BW RX2 := ⟨hx, hb, hml, hown, hts⟩
  rw [f_X2_duel] at h
  refine lv_aload_n hx hb dX2_duel_0 rfl (lv_at hl 0 rfl) ?_
  refine lv_iload_n hx hb dX2_duel_1 rfl (lv_at hl 1 rfl) ?_
  obtain ⟨x1, h2, h⟩ := bE h
  refine x_RV (As := [.int a1]) (rest := []) hF (c_X2_hasQuarrel l D cI cZ cT o a t a1 x1 h2) (cwV 1 hts (gqV mw_134 mw_135 mw_136 mw_15 mw_63) rfl rfl rfl hd_X2_hasQuarrel ⟨Nat.le_of_ble_eq_true rfl, Nat.le_of_ble_eq_true rfl⟩) hK hP q_T_bl (fun _ _ _ => trivial) [0, 1] rfl rfl rfl rfl hl.1 rfl (Nat.le_of_ble_eq_true rfl) dX2_duel_2 ⟨Nat.zero_le _, Nat.zero_le _⟩ ?_
  refine lv_if_ne (tgt := 10) hx hb dX2_duel_5 (by decide) (fun c3 => ?_) (fun c3 => ?_)
  · have h := xf c3 h
    refine lv_aload_n hx hb dX2_duel_10 rfl (lv_at hl 0 rfl) ?_
    refine lv_iload_n hx hb dX2_duel_11 rfl (lv_at hl 1 rfl) ?_
    refine lv_aload_n hx hb dX2_duel_12 rfl (lv_at hl 0 rfl) ?_
    refine lv_iload_n hx hb dX2_duel_13 rfl (lv_at hl 1 rfl) ?_
    obtain ⟨x4, h5, h⟩ := bE h
    refine x_RV (As := [.int a1]) (rest := [.int a1, .ref o]) hF (c_X2_waysOf l D cI cZ cT o a t a1 x4 h5) (cwV 1 hts (gqV mw_137 mw_138 mw_139 mw_15 mw_131) rfl rfl rfl hd_X2_waysOf ⟨Nat.le_of_ble_eq_true rfl, Nat.le_of_ble_eq_true rfl⟩) hK hP q_T_bl (fun _ _ _ => trivial) [0, 1] rfl rfl rfl rfl hl.1 rfl (Nat.le_of_ble_eq_true rfl) dX2_duel_14 ⟨Nat.zero_le _, Nat.zero_le _⟩ ?_
    obtain ⟨x6, h7, h⟩ := bE h
    refine x_RV (As := [.int a1, .int x4]) (rest := []) hF (c_X2_whyNotDue l D cI cZ cT o a t a1 x4 x6 h7) (cwV 2 hts (gqV mw_154 mw_155 mw_156 mw_15 mw_147) rfl rfl rfl hd_X2_whyNotDue ⟨Nat.le_of_ble_eq_true rfl, Nat.le_of_ble_eq_true rfl⟩) hK hP q_T_bl (fun _ _ _ => trivial) [0, 1] rfl rfl rfl rfl hl.1 rfl (Nat.le_of_ble_eq_true rfl) dX2_duel_17 ⟨Nat.zero_le _, Nat.zero_le _⟩ ?_
    refine lv_if_eq (tgt := 26) hx hb dX2_duel_20 (by decide) (fun c8 => ?_) (fun c8 => ?_)
    · have h := xt c8 h
      refine lv_aload_n hx hb dX2_duel_26 rfl (lv_at hl 0 rfl) ?_
      refine lv_bipush (v := 44) hx hb dX2_duel_27 (by decide) ?_
      refine lv_iload_n hx hb dX2_duel_29 rfl (lv_at hl 1 rfl) ?_
      obtain ⟨x9, h10, h⟩ := bE h
      refine x_RV (As := [.int (44 : Int32), .int a1]) (rest := []) hF (c_X2_read l D cI cZ cT o a t (44 : Int32) a1 x9 h10) (cwV 2 hts (gqV mw_65 mw_66 mw_67 mw_15 mw_61) rfl rfl rfl hd_X2_read ⟨Nat.le_of_ble_eq_true rfl, Nat.le_of_ble_eq_true rfl⟩) hK hP q_T_bl (fun _ _ _ => trivial) [0, 1] rfl rfl rfl rfl hl.1 rfl (Nat.le_of_ble_eq_true rfl) dX2_duel_30 ⟨Nat.zero_le _, Nat.zero_le _⟩ ?_
      refine lv_istore_n (lv' := [(2, .int x9), (0, .ref o), (1, .int a1)]) hx hb dX2_duel_33 rfl hl (by decide) rfl (fun ls hl => ?_)
      refine lv_aload_n hx hb dX2_duel_34 rfl (lv_at hl 1 rfl) ?_
      refine lv_bipush (v := 56) hx hb dX2_duel_35 (by decide) ?_
      refine lv_iload_n hx hb dX2_duel_37 rfl (lv_at hl 2 rfl) ?_
      obtain ⟨x11, h12, h⟩ := bE h
      refine x_RV (As := [.int (56 : Int32), .int a1]) (rest := []) hF (c_X2_read l D cI cZ cT o a t (56 : Int32) a1 x11 h12) (cwV 2 hts (gqV mw_65 mw_66 mw_67 mw_15 mw_61) rfl rfl rfl hd_X2_read ⟨Nat.le_of_ble_eq_true rfl, Nat.le_of_ble_eq_true rfl⟩) hK hP q_T_bl (fun _ _ _ => trivial) [0, 1] rfl rfl rfl rfl hl.1 rfl (Nat.le_of_ble_eq_true rfl) dX2_duel_38 ⟨Nat.zero_le _, Nat.zero_le _⟩ ?_
      refine lv_istore_n (lv' := [(3, .int x11), (2, .int x9), (0, .ref o), (1, .int a1)]) hx hb dX2_duel_41 rfl hl (by decide) rfl (fun ls hl => ?_)
      refine lv_aload_n hx hb dX2_duel_42 rfl (lv_at hl 2 rfl) ?_
      refine lv_iload_n hx hb dX2_duel_43 rfl (lv_at hl 3 rfl) ?_
      obtain ⟨x13, h14, h⟩ := bE h
      refine x_RV (As := [.int a1]) (rest := []) hF (c_X2_winnerOf l D cI cZ cT o a t a1 x13 h14) (cwV 1 hts (gqV mw_157 mw_158 mw_159 mw_15 mw_149) rfl rfl rfl hd_X2_winnerOf ⟨Nat.le_of_ble_eq_true rfl, Nat.le_of_ble_eq_true rfl⟩) hK hP q_T_bl (fun _ _ _ => trivial) [0, 1] rfl rfl rfl rfl hl.1 rfl (Nat.le_of_ble_eq_true rfl) dX2_duel_44 ⟨Nat.zero_le _, Nat.zero_le _⟩ ?_
      refine lv_istore (lv' := [(4, .int x13), (3, .int x11), (2, .int x9), (0, .ref o), (1, .int a1)]) hx hb dX2_duel_47 hl (by decide) rfl (fun ls hl => ?_)
      refine lv_aload_n hx hb dX2_duel_49 rfl (lv_at hl 3 rfl) ?_
      refine lv_iconst (v := 4) hx hb dX2_duel_50 (by decide) ?_
      refine lv_iload hx hb dX2_duel_51 (lv_at hl 0 rfl) ?_
      refine lv_iconst (v := 1) hx hb dX2_duel_53 (by decide) ?_
      obtain ⟨x15, h16, h⟩ := bE h
      refine x_VV (As := [.int (4 : Int32), .int x13, .int (1 : Int32)]) (rest := []) (wr := []) (W1 := wT cI o a x15) hF (c_X2_addPoints l D cI cZ cT _ o a t (4 : Int32) x13 (1 : Int32) x15 h16) (cwV 3 hts (gqV mw_140 mw_141 mw_142 mw_15 mw_132) rfl rfl rfl hd_X2_addPoints ⟨Nat.le_of_ble_eq_true rfl, Nat.le_of_ble_eq_true rfl⟩) hK hP hD hS hA q_T_bl (fun _ _ _ => trivial) [0, 1] [] [0, 1] rfl rfl ⟨rfl, rfl, rfl, rfl⟩ rfl rfl rfl rfl hl.1 rfl (Nat.le_of_ble_eq_true rfl) dX2_duel_54 ⟨Nat.zero_le _, Nat.zero_le _⟩ (fun H locs hP hD hS => ?_)
      refine lv_aload_n hx hb dX2_duel_57 rfl (lv_at hl 3 rfl) ?_
      refine lv_iconst (v := 4) hx hb dX2_duel_58 (by decide) ?_
      refine lv_iload hx hb dX2_duel_59 (lv_at hl 0 rfl) ?_
      refine lv_iload_n hx hb dX2_duel_61 rfl (lv_at hl 2 rfl) ?_
      refine x_j (V := Int32) (nL := 5) (fun v17 => [(0, .ref o), (1, .int a1), (2, .int x9), (3, .int x11), (4, .int x13)]) 70 (fun v17 => [.int v17, .int (4 : Int32), .ref o]) h (fun v17 h ls hl => ?_) (fun v17 h hj => ?_)
      · refine lv_bipush (v := (-2)) hx hb dX2_duel_70 (by decide) ?_
        obtain ⟨x18, h19, h⟩ := bE h
        refine x_VV (As := [.int (4 : Int32), .int v17, .int (-2 : Int32)]) (rest := []) (wr := []) (W1 := wT cI o a x18) hF (c_X2_addPoints l D cI cZ cT _ o a x15 (4 : Int32) v17 (-2 : Int32) x18 h19) (cwV 3 hts (gqV mw_140 mw_141 mw_142 mw_15 mw_132) rfl rfl rfl hd_X2_addPoints ⟨Nat.le_of_ble_eq_true rfl, Nat.le_of_ble_eq_true rfl⟩) hK hP hD hS hA q_T_bl (fun _ _ _ => trivial) [0, 1] [] [0, 1] rfl rfl ⟨rfl, rfl, rfl, rfl⟩ rfl rfl rfl rfl hl.1 rfl (Nat.le_of_ble_eq_true rfl) dX2_duel_72 ⟨Nat.zero_le _, Nat.zero_le _⟩ (fun H locs hP hD hS => ?_)
        refine lv_aload_n hx hb dX2_duel_75 rfl (lv_at hl 0 rfl) ?_
        refine lv_iload_n hx hb dX2_duel_76 rfl (lv_at hl 2 rfl) ?_
        obtain ⟨x20, h21, h⟩ := bE h
        refine x_VV (As := [.int x9]) (rest := []) (wr := []) (W1 := wT cI o a x20) hF (c_X2_bindByOath l D cI cZ cT _ o a x18 x9 x20 h21) (cwV 1 hts (gqV mw_160 mw_161 mw_162 mw_15 mw_153) rfl rfl rfl hd_X2_bindByOath ⟨Nat.le_of_ble_eq_true rfl, Nat.le_of_ble_eq_true rfl⟩) hK hP hD hS hA q_T_bl (fun _ _ _ => trivial) [0, 1] [] [0, 1] rfl rfl ⟨rfl, rfl, rfl, rfl⟩ rfl rfl rfl rfl hl.1 rfl (Nat.le_of_ble_eq_true rfl) dX2_duel_77 ⟨Nat.zero_le _, Nat.zero_le _⟩ (fun H locs hP hD hS => ?_)
        refine lv_aload_n hx hb dX2_duel_80 rfl (lv_at hl 0 rfl) ?_
        refine lv_iload_n hx hb dX2_duel_81 rfl (lv_at hl 3 rfl) ?_
        obtain ⟨x22, h23, h⟩ := bE h
        refine x_VV (As := [.int x11]) (rest := []) (wr := []) (W1 := wT cI o a x22) hF (c_X2_bindByOath l D cI cZ cT _ o a x20 x11 x22 h23) (cwV 1 hts (gqV mw_160 mw_161 mw_162 mw_15 mw_153) rfl rfl rfl hd_X2_bindByOath ⟨Nat.le_of_ble_eq_true rfl, Nat.le_of_ble_eq_true rfl⟩) hK hP hD hS hA q_T_bl (fun _ _ _ => trivial) [0, 1] [] [0, 1] rfl rfl ⟨rfl, rfl, rfl, rfl⟩ rfl rfl rfl rfl hl.1 rfl (Nat.le_of_ble_eq_true rfl) dX2_duel_82 ⟨Nat.zero_le _, Nat.zero_le _⟩ (fun H locs hP hD hS => ?_)
        refine lv_aload_n hx hb dX2_duel_85 rfl (lv_at hl 0 rfl) ?_
        refine lv_bipush (v := 92) hx hb dX2_duel_86 (by decide) ?_
        refine lv_iload_n hx hb dX2_duel_88 rfl (lv_at hl 1 rfl) ?_
        refine lv_iconst (v := 2) hx hb dX2_duel_89 (by decide) ?_
        obtain ⟨x24, h25, h⟩ := bE h
        refine x_VV (As := [.int (92 : Int32), .int a1, .int (2 : Int32)]) (rest := []) (wr := []) (W1 := wT cI o a x24) hF (c_X2_write l D cI cZ cT _ o a x22 (92 : Int32) a1 (2 : Int32) x24 h25) (cwV 3 hts (gqV mw_12 mw_13 mw_14 mw_15 mw_0) rfl rfl rfl hd_X2_write ⟨Nat.le_of_ble_eq_true rfl, Nat.le_of_ble_eq_true rfl⟩) hK hP hD hS hA q_T_bl (fun _ _ _ => trivial) [0, 1] [] [0, 1] rfl rfl ⟨rfl, rfl, rfl, rfl⟩ rfl rfl rfl rfl hl.1 rfl (Nat.le_of_ble_eq_true rfl) dX2_duel_90 ⟨Nat.zero_le _, Nat.zero_le _⟩ (fun H locs hP hD hS => ?_)
        refine lv_aload_n hx hb dX2_duel_93 rfl (lv_at hl 0 rfl) ?_
        refine lv_sipush (v := 128) hx hb dX2_duel_94 (by decide) ?_
        refine lv_iload_n hx hb dX2_duel_97 rfl (lv_at hl 1 rfl) ?_
        refine lv_iload hx hb dX2_duel_98 (lv_at hl 4 rfl) ?_
        obtain ⟨x26, h27, h⟩ := bE h
        refine x_VV (As := [.int (128 : Int32), .int a1, .int x13]) (rest := []) (wr := []) (W1 := wT cI o a x26) hF (c_X2_write l D cI cZ cT _ o a x24 (128 : Int32) a1 x13 x26 h27) (cwV 3 hts (gqV mw_12 mw_13 mw_14 mw_15 mw_0) rfl rfl rfl hd_X2_write ⟨Nat.le_of_ble_eq_true rfl, Nat.le_of_ble_eq_true rfl⟩) hK hP hD hS hA q_T_bl (fun _ _ _ => trivial) [0, 1] [] [0, 1] rfl rfl ⟨rfl, rfl, rfl, rfl⟩ rfl rfl rfl rfl hl.1 rfl (Nat.le_of_ble_eq_true rfl) dX2_duel_100 ⟨Nat.zero_le _, Nat.zero_le _⟩ (fun H locs hP hD hS => ?_)
        refine lv_aload_n hx hb dX2_duel_103 rfl (lv_at hl 0 rfl) ?_
        refine lv_iconst (v := 2) hx hb dX2_duel_104 (by decide) ?_
        refine lv_iload_n hx hb dX2_duel_105 rfl (lv_at hl 1 rfl) ?_
        obtain ⟨x28, h29, h⟩ := bE h
        refine x_VV (As := [.int (2 : Int32), .int a1]) (rest := []) (wr := []) (W1 := wT cI o a x28) hF (c_X2_addEvent l D cI cZ cT _ o a x26 (2 : Int32) a1 x28 h29) (cwV 2 hts (gqV mw_105 mw_106 mw_107 mw_15 mw_97) rfl rfl rfl hd_X2_addEvent ⟨Nat.le_of_ble_eq_true rfl, Nat.le_of_ble_eq_true rfl⟩) hK hP hD hS hA q_T_bl (fun _ _ _ => trivial) [0, 1] [] [0, 1] rfl rfl ⟨rfl, rfl, rfl, rfl⟩ rfl rfl rfl rfl hl.1 rfl (Nat.le_of_ble_eq_true rfl) dX2_duel_106 ⟨Nat.zero_le _, Nat.zero_le _⟩ (fun H locs hP hD hS => ?_)
        refine lv_iload hx hb dX2_duel_109 (lv_at hl 4 rfl) ?_
        cases h
        exact x_retM C0 rfl hP hD hS dX2_duel_111
      · refine lv_icmp_ne (tgt := 69) hx hb dX2_duel_62 (by decide) (fun c30 => ?_) (fun c30 => ?_)
        · have h := xf c30 h
          refine lv_iload_n hx hb dX2_duel_69 rfl (lv_at hl 2 rfl) ?_
          cases h
          exact hj _ (lv_sub hl [3, 4, 2, 1, 0] rfl)
        · have h := xt c30 h
          refine lv_iload_n hx hb dX2_duel_65 rfl (lv_at hl 1 rfl) ?_
          refine lv_goto (tgt := 70) hx hb dX2_duel_66 (by decide) ?_
          cases h
          exact hj _ (lv_sub hl [3, 4, 2, 1, 0] rfl)
    · have h := xf c8 h
      refine lv_bipush (v := (-5)) hx hb dX2_duel_23 (by decide) ?_
      cases h
      exact x_retM C0 rfl hP hD hS dX2_duel_25
  · have h := xt c3 h
    refine lv_iconst (v := (-1)) hx hb dX2_duel_8 (by decide) ?_
    cases h
    exact x_retM C0 rfl hP hD hS dX2_duel_9

/-! QuarrelWays.Town.takeOath (I)I -/
def f_X2_takeOath (t : TT) (a1 : Int32) : Option (Int32 × TT) := ((f_X2_hasPerson t a1).bind fun x1 => (if x1 = 0 then some ((-1 : Int32), t) else ((f_X2_oathLeft t a1).bind fun x4 => (if x4 ≤ 0 then ((f_X2_bindByOath t a1).bind fun x7 => ((f_X2_addEvent x7 (3 : Int32) a1).bind fun x9 => ((f_X2_read x9 (34 : Int32) a1).bind fun x11 => some (x11, x9)))) else some ((-5 : Int32), t)))))
abbrev rm_X2_takeOath : Room := { frames := 2, cells := 0, slots := 0, locals := 47 }
theorem hd_X2_takeOath : yX2_takeOath.cls = RX2 ∧ yX2_takeOath.cls ≠ "java/lang/invoke/MethodHandle" ∧ yX2_takeOath.cls ≠ "java/lang/invoke/VarHandle" ∧ (parseMethodDescriptor yX2_takeOath.desc).map (fun d => d.parameters.length) = some 1 := by decide +kernel
set_option maxHeartbeats 4000000 in
set_option maxRecDepth 100000 in
theorem c_X2_takeOath (l : Launch) (D : va_G) (cI cZ cT : ClassId) (sz : Nat) (o a : Nat) (t : TT) (a1 : Int32) (r : Int32 × TT) (h : f_X2_takeOath t a1 = some r) : Met l yX2_takeOath (wq yX2_takeOath cX2_takeOath 2 (some .int)) rm_X2_takeOath (q_M D (q_tys cI cZ cT) sz (wT cI o a t) q_T [.ref o, .int a1]) (va_Qi (fun r' _ => r' = r.1) (q_B D (wT cI o a t) sz (wT cI o a r.2)) (va_A (wT cI o a t) sz)) 0 0 (va_A (wT cI o a t) sz) := by
  refine q_MI (cc := cX2_takeOath) (maxL := 2) (ret := (some .int)) (E := fun sz => q_T) (Qc := fun sz => (va_Qi (fun r' _ => r' = r.1) (q_B D (wT cI o a t) sz (wT cI o a r.2)) (va_A (wT cI o a t) sz))) (free := fun sz => va_A (wT cI o a t) sz) (plainFor_of_name (by decide)) (Nat.le_of_ble_eq_true rfl) (fun p e s m below meth c C0 hname hP hK hD hE ls hl => ?_)
  have hA : ∀ q, s.heap.size ≤ q → (va_A (wT cI o a t) s.heap.size) q := fun _ => Or.inr
  have hS : va_S (va_A (wT cI o a t) s.heap.size) s.heap s.heap [] := va_S.rf
  have hl : lv_has ls 2 [(0, .ref o), (1, .int a1)] := hl
  obtain ⟨hx, hb, hr, hml, hown, hts, hlocks⟩ := id C0
  have hF : CallFix p m c cX2_takeOath 2 s _ BW RX2 := ⟨hx, hb, hml, hown, hts⟩
  rw [f_X2_takeOath] at h
  refine lv_aload_n hx hb dX2_takeOath_0 rfl (lv_at hl 0 rfl) ?_
  refine lv_iload_n hx hb dX2_takeOath_1 rfl (lv_at hl 1 rfl) ?_
  obtain ⟨x1, h2, h⟩ := bE h
  refine x_RV (As := [.int a1]) (rest := []) hF (c_X2_hasPerson l D cI cZ cT o a t a1 x1 h2) (cwV 1 hts (gqV mw_84 mw_85 mw_86 mw_15 mw_62) rfl rfl rfl hd_X2_hasPerson ⟨Nat.le_of_ble_eq_true rfl, Nat.le_of_ble_eq_true rfl⟩) hK hP q_T_bl (fun _ _ _ => trivial) [0, 1] rfl rfl rfl rfl hl.1 rfl (Nat.le_of_ble_eq_true rfl) dX2_takeOath_2 ⟨Nat.zero_le _, Nat.zero_le _⟩ ?_
  refine lv_if_ne (tgt := 10) hx hb dX2_takeOath_5 (by decide) (fun c3 => ?_) (fun c3 => ?_)
  · have h := xf c3 h
    refine lv_aload_n hx hb dX2_takeOath_10 rfl (lv_at hl 0 rfl) ?_
    refine lv_iload_n hx hb dX2_takeOath_11 rfl (lv_at hl 1 rfl) ?_
    obtain ⟨x4, h5, h⟩ := bE h
    refine x_RV (As := [.int a1]) (rest := []) hF (c_X2_oathLeft l D cI cZ cT o a t a1 x4 h5) (cwV 1 hts (gqV mw_118 mw_119 mw_120 mw_15 mw_70) rfl rfl rfl hd_X2_oathLeft ⟨Nat.le_of_ble_eq_true rfl, Nat.le_of_ble_eq_true rfl⟩) hK hP q_T_bl (fun _ _ _ => trivial) [0, 1] rfl rfl rfl rfl hl.1 rfl (Nat.le_of_ble_eq_true rfl) dX2_takeOath_12 ⟨Nat.zero_le _, Nat.zero_le _⟩ ?_
    refine lv_if_le (tgt := 21) hx hb dX2_takeOath_15 (by decide) (fun c6 => ?_) (fun c6 => ?_)
    · have h := xt c6 h
      refine lv_aload_n hx hb dX2_takeOath_21 rfl (lv_at hl 0 rfl) ?_
      refine lv_iload_n hx hb dX2_takeOath_22 rfl (lv_at hl 1 rfl) ?_
      obtain ⟨x7, h8, h⟩ := bE h
      refine x_VV (As := [.int a1]) (rest := []) (wr := []) (W1 := wT cI o a x7) hF (c_X2_bindByOath l D cI cZ cT _ o a t a1 x7 h8) (cwV 1 hts (gqV mw_160 mw_161 mw_162 mw_15 mw_153) rfl rfl rfl hd_X2_bindByOath ⟨Nat.le_of_ble_eq_true rfl, Nat.le_of_ble_eq_true rfl⟩) hK hP hD hS hA q_T_bl (fun _ _ _ => trivial) [0, 1] [] [0, 1] rfl rfl ⟨rfl, rfl, rfl, rfl⟩ rfl rfl rfl rfl hl.1 rfl (Nat.le_of_ble_eq_true rfl) dX2_takeOath_23 ⟨Nat.zero_le _, Nat.zero_le _⟩ (fun H locs hP hD hS => ?_)
      refine lv_aload_n hx hb dX2_takeOath_26 rfl (lv_at hl 0 rfl) ?_
      refine lv_iconst (v := 3) hx hb dX2_takeOath_27 (by decide) ?_
      refine lv_iload_n hx hb dX2_takeOath_28 rfl (lv_at hl 1 rfl) ?_
      obtain ⟨x9, h10, h⟩ := bE h
      refine x_VV (As := [.int (3 : Int32), .int a1]) (rest := []) (wr := []) (W1 := wT cI o a x9) hF (c_X2_addEvent l D cI cZ cT _ o a x7 (3 : Int32) a1 x9 h10) (cwV 2 hts (gqV mw_105 mw_106 mw_107 mw_15 mw_97) rfl rfl rfl hd_X2_addEvent ⟨Nat.le_of_ble_eq_true rfl, Nat.le_of_ble_eq_true rfl⟩) hK hP hD hS hA q_T_bl (fun _ _ _ => trivial) [0, 1] [] [0, 1] rfl rfl ⟨rfl, rfl, rfl, rfl⟩ rfl rfl rfl rfl hl.1 rfl (Nat.le_of_ble_eq_true rfl) dX2_takeOath_29 ⟨Nat.zero_le _, Nat.zero_le _⟩ (fun H locs hP hD hS => ?_)
      refine lv_aload_n hx hb dX2_takeOath_32 rfl (lv_at hl 0 rfl) ?_
      refine lv_bipush (v := 34) hx hb dX2_takeOath_33 (by decide) ?_
      refine lv_iload_n hx hb dX2_takeOath_35 rfl (lv_at hl 1 rfl) ?_
      obtain ⟨x11, h12, h⟩ := bE h
      refine x_RV (As := [.int (34 : Int32), .int a1]) (rest := []) hF (c_X2_read l D cI cZ cT o a x9 (34 : Int32) a1 x11 h12) (cwV 2 hts (gqV mw_65 mw_66 mw_67 mw_15 mw_61) rfl rfl rfl hd_X2_read ⟨Nat.le_of_ble_eq_true rfl, Nat.le_of_ble_eq_true rfl⟩) hK hP q_T_bl (fun _ _ _ => trivial) [0, 1] rfl rfl rfl rfl hl.1 rfl (Nat.le_of_ble_eq_true rfl) dX2_takeOath_36 ⟨Nat.zero_le _, Nat.zero_le _⟩ ?_
      cases h
      exact x_retM C0 rfl hP hD hS dX2_takeOath_39
    · have h := xf c6 h
      refine lv_bipush (v := (-5)) hx hb dX2_takeOath_18 (by decide) ?_
      cases h
      exact x_retM C0 rfl hP hD hS dX2_takeOath_20
  · have h := xt c3 h
    refine lv_iconst (v := (-1)) hx hb dX2_takeOath_8 (by decide) ?_
    cases h
    exact x_retM C0 rfl hP hD hS dX2_takeOath_9

/-! QuarrelWays.Town.moveOn (I)I -/
def f_X2_moveOn (t : TT) (a1 : Int32) : Option (Int32 × TT) := (if a1 < (1 : Int32) then some ((-2 : Int32), t) else (if a1 ≤ (99 : Int32) then (if (t.1 + a1) ≤ (9999 : Int32) then some ((t.1 + a1), (T0 t (t.1 + a1))) else some ((-5 : Int32), t)) else some ((-2 : Int32), t)))
abbrev rm_X2_moveOn : Room := { frames := 0, cells := 0, slots := 0, locals := 0 }
theorem hd_X2_moveOn : yX2_moveOn.cls = RX2 ∧ yX2_moveOn.cls ≠ "java/lang/invoke/MethodHandle" ∧ yX2_moveOn.cls ≠ "java/lang/invoke/VarHandle" ∧ (parseMethodDescriptor yX2_moveOn.desc).map (fun d => d.parameters.length) = some 1 := by decide +kernel
set_option maxHeartbeats 4000000 in
set_option maxRecDepth 100000 in
theorem c_X2_moveOn (l : Launch) (D : va_G) (cI cZ cT : ClassId) (sz : Nat) (o a : Nat) (t : TT) (a1 : Int32) (r : Int32 × TT) (h : f_X2_moveOn t a1 = some r) : Met l yX2_moveOn (wq yX2_moveOn cX2_moveOn 3 (some .int)) rm_X2_moveOn (q_M D (q_tys cI cZ cT) sz (wT cI o a t) q_T [.ref o, .int a1]) (va_Qi (fun r' _ => r' = r.1) (q_B D (wT cI o a t) sz (wT cI o a r.2)) (va_A (wT cI o a t) sz)) 0 0 (va_A (wT cI o a t) sz) := by
  refine q_MI (cc := cX2_moveOn) (maxL := 3) (ret := (some .int)) (E := fun sz => q_T) (Qc := fun sz => (va_Qi (fun r' _ => r' = r.1) (q_B D (wT cI o a t) sz (wT cI o a r.2)) (va_A (wT cI o a t) sz))) (free := fun sz => va_A (wT cI o a t) sz) (plainFor_of_name (by decide)) (Nat.le_of_ble_eq_true rfl) (fun p e s m below meth c C0 hname hP hK hD hE ls hl => ?_)
  have hA : ∀ q, s.heap.size ≤ q → (va_A (wT cI o a t) s.heap.size) q := fun _ => Or.inr
  have hS : va_S (va_A (wT cI o a t) s.heap.size) s.heap s.heap [] := va_S.rf
  have hl : lv_has ls 3 [(0, .ref o), (1, .int a1)] := hl
  obtain ⟨hx, hb, hr, hml, hown, hts, hlocks⟩ := id C0
  have hF : CallFix p m c cX2_moveOn 3 s _ BW RX2 := ⟨hx, hb, hml, hown, hts⟩
  rw [f_X2_moveOn] at h
  refine lv_iload_n hx hb dX2_moveOn_0 rfl (lv_at hl 1 rfl) ?_
  refine lv_iconst (v := 1) hx hb dX2_moveOn_1 (by decide) ?_
  refine lv_icmp_lt (tgt := 11) hx hb dX2_moveOn_2 (by decide) (fun c1 => ?_) (fun c1 => ?_)
  · have h := xt c1 h
    refine lv_bipush (v := (-2)) hx hb dX2_moveOn_11 (by decide) ?_
    cases h
    exact x_retM C0 rfl hP hD hS dX2_moveOn_13
  · have h := xf c1 h
    refine lv_iload_n hx hb dX2_moveOn_5 rfl (lv_at hl 1 rfl) ?_
    refine lv_bipush (v := 99) hx hb dX2_moveOn_6 (by decide) ?_
    refine lv_icmp_le (tgt := 14) hx hb dX2_moveOn_8 (by decide) (fun c2 => ?_) (fun c2 => ?_)
    · have h := xt c2 h
      refine lv_aload_n hx hb dX2_moveOn_14 rfl (lv_at hl 0 rfl) ?_
      refine va_get (D := D) (v := .int t.1) (C := RX2) (T := TX2) (N := 6) hx hb hts iw_X2 hown hK hP 0 rfl rfl 0 (by decide) (hts _ mw_6) (fun _ h9 => h9) rfl dX2_moveOn_15 ?_
      refine lv_iload_n hx hb dX2_moveOn_18 rfl (lv_at hl 1 rfl) ?_
      refine lv_iadd hx hb dX2_moveOn_19 ?_
      refine lv_istore_n (lv' := [(2, .int (t.1 + a1)), (0, .ref o), (1, .int a1)]) hx hb dX2_moveOn_20 rfl hl (by decide) rfl (fun ls hl => ?_)
      refine lv_iload_n hx hb dX2_moveOn_21 rfl (lv_at hl 0 rfl) ?_
      refine lv_sipush (v := 9999) hx hb dX2_moveOn_22 (by decide) ?_
      refine lv_icmp_le (tgt := 31) hx hb dX2_moveOn_25 (by decide) (fun c3 => ?_) (fun c3 => ?_)
      · have h := xt c3 h
        refine lv_aload_n hx hb dX2_moveOn_31 rfl (lv_at hl 1 rfl) ?_
        refine lv_iload_n hx hb dX2_moveOn_32 rfl (lv_at hl 0 rfl) ?_
        refine va_put (D := D) (v := .int (t.1 + a1)) (ty := .int) (C := RX2) (T := TX2) (N := 6) hx hb hts iw_X2 tyX2 tyX2_ok nmX2 hown hK hP hD hS 0 rfl rfl 0 (by decide) (hts _ mw_6) (fun _ h9 => h9) rfl (by decide +kernel) rfl rfl (Nat.le_of_ble_eq_true rfl) dX2_moveOn_33 (fun H locs hP hD hS => ?_)
        have hP : va_P D vwCl (wT cI o a (T0 t (t.1 + a1))) H := hP
        have hD : va_D (va_A (wT cI o a t) s.heap.size) (wT cI o a (T0 t (t.1 + a1))) := hD
        refine lv_iload_n hx hb dX2_moveOn_36 rfl (lv_at hl 0 rfl) ?_
        cases h
        exact x_retM C0 rfl hP hD hS dX2_moveOn_37
      · have h := xf c3 h
        refine lv_bipush (v := (-5)) hx hb dX2_moveOn_28 (by decide) ?_
        cases h
        exact x_retM C0 rfl hP hD hS dX2_moveOn_30
    · have h := xf c2 h
      refine lv_bipush (v := (-2)) hx hb dX2_moveOn_11 (by decide) ?_
      cases h
      exact x_retM C0 rfl hP hD hS dX2_moveOn_13

end G_T4

section G_N
variable {p : Program} {l : Launch} {e : Env} {s : State} {m : MethodId} {args : Array Value} {below : List Frame} {meth : Method} {c : Code} {D : va_G} {cI cZ cT : ClassId}
def f_X2_init : Option TT := (f_X2_write ((0, 31, 0, 0, 0, fun _ => 0) : TT) 0 0 12).bind fun t1 => (f_X2_write t1 0 1 24).bind fun t2 => (f_X2_write t2 0 2 72).bind fun t3 => (f_X2_write t3 0 3 100).bind fun t4 => some t4
abbrev rm_X2_init : Room := { frames := 1, cells := 1, slots := 176, locals := 24 }
theorem hd_X2_init : yX2_init.cls = RX2 ∧ yX2_init.cls ≠ "java/lang/invoke/MethodHandle" ∧ yX2_init.cls ≠ "java/lang/invoke/VarHandle" ∧ (parseMethodDescriptor yX2_init.desc).map (fun d => d.parameters.length) = some 0 := by decide +kernel
set_option maxHeartbeats 8000000 in
set_option maxRecDepth 100000 in
theorem c_X2_init (l : Launch) (D : va_G) (cI cZ cT : ClassId) (sz : Nat) (o : Nat) (t : TT) (h : f_X2_init = some t) : Met l yX2_init (wq yX2_init cX2_init 1 none) rm_X2_init (q_M D (q_tys cI cZ cT) sz ([(o, .inr (2, [.int 0, .int 0, .int 0, .int 0, .int 0, .null]))]) q_T [.ref o]) (va_Qv (fun _ => True) (fun (u : Nat) t' => va_P D vwCl (wT cI o u t) t'.heap ∧ va_D (va_A ([(o, .inr (2, [.int 0, .int 0, .int 0, .int 0, .int 0, .null]))]) sz) (wT cI o u t)) (va_A ([(o, .inr (2, [.int 0, .int 0, .int 0, .int 0, .int 0, .null]))]) sz)) 1 176 (va_A ([(o, .inr (2, [.int 0, .int 0, .int 0, .int 0, .int 0, .null]))]) sz) := by
  refine q_MI (cc := cX2_init) (maxL := 1) (ret := none) (E := fun sz => q_T) (Qc := fun sz => (va_Qv (fun _ => True) (fun (u : Nat) t' => va_P D vwCl (wT cI o u t) t'.heap ∧ va_D (va_A ([(o, .inr (2, [.int 0, .int 0, .int 0, .int 0, .int 0, .null]))]) sz) (wT cI o u t)) (va_A ([(o, .inr (2, [.int 0, .int 0, .int 0, .int 0, .int 0, .null]))]) sz))) (free := fun sz => va_A ([(o, .inr (2, [.int 0, .int 0, .int 0, .int 0, .int 0, .null]))]) sz) (plainFor_of_name (by decide)) (Nat.le_of_ble_eq_true rfl) (fun p e s m below meth c C0 hname hP hK hD hE ls hl => ?_)
  have hA : ∀ q, s.heap.size ≤ q → (va_A ([(o, .inr (2, [.int 0, .int 0, .int 0, .int 0, .int 0, .null]))]) s.heap.size) q := fun _ => Or.inr
  have hS : va_S (va_A ([(o, .inr (2, [.int 0, .int 0, .int 0, .int 0, .int 0, .null]))]) s.heap.size) s.heap s.heap [] := va_S.rf
  have hl : lv_has ls 1 [(0, .ref o)] := hl
  obtain ⟨hx, hb, hr, hml, hown, hts, hlocks⟩ := id C0
  have hF : CallFix p m c cX2_init 1 s _ BW RX2 := ⟨hx, hb, hml, hown, hts⟩
  rw [f_X2_init] at h
  refine lv_aload_n hx hb dX2_init_0 rfl (lv_at hl 0 rfl) ?_
  refine W.objInit hx hb hown (hts _ mw_3) (hts _ mw_4) (hts _ mw_5) rfl (by rw [hml]; exact hl.1) rfl dX2_init_1 (Nat.le_of_ble_eq_true rfl) (Nat.le_of_ble_eq_true rfl) ?_
  refine W.eq (g2 := F0 m 4 ls []) rfl ?_
  refine lv_aload_n hx hb dX2_init_4 rfl (lv_at hl 0 rfl) ?_
  refine lv_iconst (v := 0) hx hb dX2_init_5 (by decide) ?_
  refine va_put (D := D) (v := .int (0 : Int32)) (ty := .int) (C := RX2) (T := TX2) (N := 6) hx hb hts iw_X2 tyX2 tyX2_ok nmX2 hown hK hP hD hS 0 rfl rfl 0 (by decide) (hts _ mw_6) (fun _ h9 => h9) rfl (by decide +kernel) rfl rfl (Nat.le_of_ble_eq_true rfl) dX2_init_6 (fun H locs hP hD hS => ?_)
  have hP : va_P D vwCl ([(o, .inr (2, [.int (0 : Int32), .int 0, .int 0, .int 0, .int 0, .null]))]) H := hP
  have hD : va_D (va_A ([(o, .inr (2, [.int 0, .int 0, .int 0, .int 0, .int 0, .null]))]) s.heap.size) ([(o, .inr (2, [.int (0 : Int32), .int 0, .int 0, .int 0, .int 0, .null]))]) := hD
  refine lv_aload_n hx hb dX2_init_9 rfl (lv_at hl 0 rfl) ?_
  refine lv_bipush (v := 31) hx hb dX2_init_10 (by decide) ?_
  refine va_put (D := D) (v := .int (31 : Int32)) (ty := .int) (C := RX2) (T := TX2) (N := 6) hx hb hts iw_X2 tyX2 tyX2_ok nmX2 hown hK hP hD hS 0 rfl rfl 1 (by decide) (hts _ mw_7) (fun _ h9 => h9) rfl (by decide +kernel) rfl rfl (Nat.le_of_ble_eq_true rfl) dX2_init_12 (fun H locs hP hD hS => ?_)
  have hP : va_P D vwCl ([(o, .inr (2, [.int (0 : Int32), .int (31 : Int32), .int 0, .int 0, .int 0, .null]))]) H := hP
  have hD : va_D (va_A ([(o, .inr (2, [.int 0, .int 0, .int 0, .int 0, .int 0, .null]))]) s.heap.size) ([(o, .inr (2, [.int (0 : Int32), .int (31 : Int32), .int 0, .int 0, .int 0, .null]))]) := hD
  refine lv_aload_n hx hb dX2_init_15 rfl (lv_at hl 0 rfl) ?_
  refine lv_iconst (v := 0) hx hb dX2_init_16 (by decide) ?_
  refine va_put (D := D) (v := .int (0 : Int32)) (ty := .int) (C := RX2) (T := TX2) (N := 6) hx hb hts iw_X2 tyX2 tyX2_ok nmX2 hown hK hP hD hS 0 rfl rfl 2 (by decide) (hts _ mw_8) (fun _ h9 => h9) rfl (by decide +kernel) rfl rfl (Nat.le_of_ble_eq_true rfl) dX2_init_17 (fun H locs hP hD hS => ?_)
  have hP : va_P D vwCl ([(o, .inr (2, [.int (0 : Int32), .int (31 : Int32), .int (0 : Int32), .int 0, .int 0, .null]))]) H := hP
  have hD : va_D (va_A ([(o, .inr (2, [.int 0, .int 0, .int 0, .int 0, .int 0, .null]))]) s.heap.size) ([(o, .inr (2, [.int (0 : Int32), .int (31 : Int32), .int (0 : Int32), .int 0, .int 0, .null]))]) := hD
  refine lv_aload_n hx hb dX2_init_20 rfl (lv_at hl 0 rfl) ?_
  refine lv_iconst (v := 0) hx hb dX2_init_21 (by decide) ?_
  refine va_put (D := D) (v := .int (0 : Int32)) (ty := .int) (C := RX2) (T := TX2) (N := 6) hx hb hts iw_X2 tyX2 tyX2_ok nmX2 hown hK hP hD hS 0 rfl rfl 3 (by decide) (hts _ mw_9) (fun _ h9 => h9) rfl (by decide +kernel) rfl rfl (Nat.le_of_ble_eq_true rfl) dX2_init_22 (fun H locs hP hD hS => ?_)
  have hP : va_P D vwCl ([(o, .inr (2, [.int (0 : Int32), .int (31 : Int32), .int (0 : Int32), .int (0 : Int32), .int 0, .null]))]) H := hP
  have hD : va_D (va_A ([(o, .inr (2, [.int 0, .int 0, .int 0, .int 0, .int 0, .null]))]) s.heap.size) ([(o, .inr (2, [.int (0 : Int32), .int (31 : Int32), .int (0 : Int32), .int (0 : Int32), .int 0, .null]))]) := hD
  refine lv_aload_n hx hb dX2_init_25 rfl (lv_at hl 0 rfl) ?_
  refine lv_iconst (v := 0) hx hb dX2_init_26 (by decide) ?_
  refine va_put (D := D) (v := .int (0 : Int32)) (ty := .int) (C := RX2) (T := TX2) (N := 6) hx hb hts iw_X2 tyX2 tyX2_ok nmX2 hown hK hP hD hS 0 rfl rfl 4 (by decide) (hts _ mw_10) (fun _ h9 => h9) rfl (by decide +kernel) rfl rfl (Nat.le_of_ble_eq_true rfl) dX2_init_27 (fun H locs hP hD hS => ?_)
  have hP : va_P D vwCl ([(o, .inr (2, [.int (0 : Int32), .int (31 : Int32), .int (0 : Int32), .int (0 : Int32), .int (0 : Int32), .null]))]) H := hP
  have hD : va_D (va_A ([(o, .inr (2, [.int 0, .int 0, .int 0, .int 0, .int 0, .null]))]) s.heap.size) ([(o, .inr (2, [.int (0 : Int32), .int (31 : Int32), .int (0 : Int32), .int (0 : Int32), .int (0 : Int32), .null]))]) := hD
  refine lv_aload_n hx hb dX2_init_30 rfl (lv_at hl 0 rfl) ?_
  refine lv_sipush (v := 176) hx hb dX2_init_31 (by decide) ?_
  refine x_newi hx hb (hts _ mw_11) hK hP hD hS hA 176 (by decide) (by decide) (by decide) (Nat.le_of_ble_eq_true rfl) (Nat.le_of_ble_eq_true rfl) dX2_init_34 (fun q1 H hP hD hS => ?_)
  have hP : va_P D vwCl (([(o, .inr (2, [.int (0 : Int32), .int (31 : Int32), .int (0 : Int32), .int (0 : Int32), .int (0 : Int32), .null]))]) ++ ([(q1, .inl (cI, 176, .inl (fun _ => 0)))])) H := hP
  have hD : va_D (va_A ([(o, .inr (2, [.int 0, .int 0, .int 0, .int 0, .int 0, .null]))]) s.heap.size) (([(o, .inr (2, [.int (0 : Int32), .int (31 : Int32), .int (0 : Int32), .int (0 : Int32), .int (0 : Int32), .null]))]) ++ ([(q1, .inl (cI, 176, .inl (fun _ => 0)))])) := hD
  refine va_putF (D := D) (v := .ref q1) (ty := .array .int) (C := RX2) (T := TX2) (N := 6) hx hb hts iw_X2 tyX2 tyX2_ok nmX2 hown hK hP hD hS 0 rfl rfl 5 (by decide) (hts _ mw_1) (fun _ h9 => h9) rfl hname rfl (by decide +kernel) rfl rfl (Nat.le_of_ble_eq_true rfl) dX2_init_36 (fun H locs hP hD hS => ?_)
  have hP : va_P D vwCl (([(o, .inr (2, [.int (0 : Int32), .int (31 : Int32), .int (0 : Int32), .int (0 : Int32), .int (0 : Int32), .ref q1]))]) ++ ([(q1, .inl (cI, 176, .inl (fun _ => 0)))])) H := hP
  have hD : va_D (va_A ([(o, .inr (2, [.int 0, .int 0, .int 0, .int 0, .int 0, .null]))]) s.heap.size) (([(o, .inr (2, [.int (0 : Int32), .int (31 : Int32), .int (0 : Int32), .int (0 : Int32), .int (0 : Int32), .ref q1]))]) ++ ([(q1, .inl (cI, 176, .inl (fun _ => 0)))])) := hD
  have hP : va_P D vwCl (wT cI o q1 ((0, 31, 0, 0, 0, fun _ => 0) : TT)) H := hP
  have hD : va_D (va_A ([(o, .inr (2, [.int 0, .int 0, .int 0, .int 0, .int 0, .null]))]) s.heap.size) (wT cI o q1 ((0, 31, 0, 0, 0, fun _ => 0) : TT)) := hD
  refine lv_aload_n hx hb dX2_init_39 rfl (lv_at hl 0 rfl) ?_
  refine lv_iconst (v := 0) hx hb dX2_init_40 (by decide) ?_
  refine lv_iconst (v := 0) hx hb dX2_init_41 (by decide) ?_
  refine lv_bipush (v := 12) hx hb dX2_init_42 (by decide) ?_
  obtain ⟨t1, h0, h⟩ := bE h
  refine x_VV (As := [.int 0, .int 0, .int 12]) (rest := []) (wr := []) (W1 := wT cI o q1 t1) hF (c_X2_write l D cI cZ cT _ o q1 ((0, 31, 0, 0, 0, fun _ => 0) : TT) 0 0 12 t1 h0) (cwV 3 hts (gqV mw_12 mw_13 mw_14 mw_15 mw_0) rfl rfl rfl hd_X2_write ⟨Nat.le_of_ble_eq_true rfl, Nat.le_of_ble_eq_true rfl⟩) hK hP hD hS hA q_T_bl (fun _ _ _ => trivial) [0, 1] [] [0, 1] rfl rfl ⟨rfl, rfl, rfl, rfl⟩ rfl rfl rfl rfl hl.1 rfl (Nat.le_of_ble_eq_true rfl) dX2_init_44 ⟨Nat.le_of_ble_eq_true rfl, Nat.le_of_ble_eq_true rfl⟩ (fun H locs hP hD hS => ?_)
  refine lv_aload_n hx hb dX2_init_47 rfl (lv_at hl 0 rfl) ?_
  refine lv_iconst (v := 0) hx hb dX2_init_48 (by decide) ?_
  refine lv_iconst (v := 1) hx hb dX2_init_49 (by decide) ?_
  refine lv_bipush (v := 24) hx hb dX2_init_50 (by decide) ?_
  obtain ⟨t2, h1, h⟩ := bE h
  refine x_VV (As := [.int 0, .int 1, .int 24]) (rest := []) (wr := []) (W1 := wT cI o q1 t2) hF (c_X2_write l D cI cZ cT _ o q1 t1 0 1 24 t2 h1) (cwV 3 hts (gqV mw_12 mw_13 mw_14 mw_15 mw_0) rfl rfl rfl hd_X2_write ⟨Nat.le_of_ble_eq_true rfl, Nat.le_of_ble_eq_true rfl⟩) hK hP hD hS hA q_T_bl (fun _ _ _ => trivial) [0, 1] [] [0, 1] rfl rfl ⟨rfl, rfl, rfl, rfl⟩ rfl rfl rfl rfl hl.1 rfl (Nat.le_of_ble_eq_true rfl) dX2_init_52 ⟨Nat.le_of_ble_eq_true rfl, Nat.le_of_ble_eq_true rfl⟩ (fun H locs hP hD hS => ?_)
  refine lv_aload_n hx hb dX2_init_55 rfl (lv_at hl 0 rfl) ?_
  refine lv_iconst (v := 0) hx hb dX2_init_56 (by decide) ?_
  refine lv_iconst (v := 2) hx hb dX2_init_57 (by decide) ?_
  refine lv_bipush (v := 72) hx hb dX2_init_58 (by decide) ?_
  obtain ⟨t3, h2, h⟩ := bE h
  refine x_VV (As := [.int 0, .int 2, .int 72]) (rest := []) (wr := []) (W1 := wT cI o q1 t3) hF (c_X2_write l D cI cZ cT _ o q1 t2 0 2 72 t3 h2) (cwV 3 hts (gqV mw_12 mw_13 mw_14 mw_15 mw_0) rfl rfl rfl hd_X2_write ⟨Nat.le_of_ble_eq_true rfl, Nat.le_of_ble_eq_true rfl⟩) hK hP hD hS hA q_T_bl (fun _ _ _ => trivial) [0, 1] [] [0, 1] rfl rfl ⟨rfl, rfl, rfl, rfl⟩ rfl rfl rfl rfl hl.1 rfl (Nat.le_of_ble_eq_true rfl) dX2_init_60 ⟨Nat.le_of_ble_eq_true rfl, Nat.le_of_ble_eq_true rfl⟩ (fun H locs hP hD hS => ?_)
  refine lv_aload_n hx hb dX2_init_63 rfl (lv_at hl 0 rfl) ?_
  refine lv_iconst (v := 0) hx hb dX2_init_64 (by decide) ?_
  refine lv_iconst (v := 3) hx hb dX2_init_65 (by decide) ?_
  refine lv_bipush (v := 100) hx hb dX2_init_66 (by decide) ?_
  obtain ⟨t4, h3, h⟩ := bE h
  refine x_VV (As := [.int 0, .int 3, .int 100]) (rest := []) (wr := []) (W1 := wT cI o q1 t4) hF (c_X2_write l D cI cZ cT _ o q1 t3 0 3 100 t4 h3) (cwV 3 hts (gqV mw_12 mw_13 mw_14 mw_15 mw_0) rfl rfl rfl hd_X2_write ⟨Nat.le_of_ble_eq_true rfl, Nat.le_of_ble_eq_true rfl⟩) hK hP hD hS hA q_T_bl (fun _ _ _ => trivial) [0, 1] [] [0, 1] rfl rfl ⟨rfl, rfl, rfl, rfl⟩ rfl rfl rfl rfl hl.1 rfl (Nat.le_of_ble_eq_true rfl) dX2_init_68 ⟨Nat.le_of_ble_eq_true rfl, Nat.le_of_ble_eq_true rfl⟩ (fun H locs hP hD hS => ?_)
  cases h
  exact x_retC (S9 := Nat) (w1 := fun u => wT cI o u t) q1 C0 hP hD hS dX2_init_71
abbrev pd0 : PP := (fun _ => 0, 0, 0, 0, fun _ => 0, 0)
abbrev rm_X1_init : Room := { frames := 1, cells := 2, slots := 83, locals := 24 }
theorem hd_X1_init : yX1_init.cls = RX1 ∧ yX1_init.cls ≠ "java/lang/invoke/MethodHandle" ∧ yX1_init.cls ≠ "java/lang/invoke/VarHandle" ∧ (parseMethodDescriptor yX1_init.desc).map (fun d => d.parameters.length) = some 0 := by decide +kernel
set_option maxHeartbeats 8000000 in
set_option maxRecDepth 100000 in
theorem c_X1_init (l : Launch) (D : va_G) (cI cZ cT : ClassId) (sz : Nat) (o : Nat) : Met l yX1_init (wq yX1_init cX1_init 1 none) rm_X1_init (q_M D (q_tys cI cZ cT) sz ([(o, .inr (1, [.null, .int 0, .int 0, .int 0, .null, .int 0]))]) q_T [.ref o]) (va_Qv (fun _ => True) (fun (u : Nat × Nat) t' => va_P D vwCl (wPd cI o u.1 u.2 pd0) t'.heap ∧ va_D (va_A ([(o, .inr (1, [.null, .int 0, .int 0, .int 0, .null, .int 0]))]) sz) (wPd cI o u.1 u.2 pd0)) (va_A ([(o, .inr (1, [.null, .int 0, .int 0, .int 0, .null, .int 0]))]) sz)) 2 83 (va_A ([(o, .inr (1, [.null, .int 0, .int 0, .int 0, .null, .int 0]))]) sz) := by
  refine q_MI (cc := cX1_init) (maxL := 1) (ret := none) (E := fun sz => q_T) (Qc := fun sz => (va_Qv (fun _ => True) (fun (u : Nat × Nat) t' => va_P D vwCl (wPd cI o u.1 u.2 pd0) t'.heap ∧ va_D (va_A ([(o, .inr (1, [.null, .int 0, .int 0, .int 0, .null, .int 0]))]) sz) (wPd cI o u.1 u.2 pd0)) (va_A ([(o, .inr (1, [.null, .int 0, .int 0, .int 0, .null, .int 0]))]) sz))) (free := fun sz => va_A ([(o, .inr (1, [.null, .int 0, .int 0, .int 0, .null, .int 0]))]) sz) (plainFor_of_name (by decide)) (Nat.le_of_ble_eq_true rfl) (fun p e s m below meth c C0 hname hP hK hD hE ls hl => ?_)
  have hA : ∀ q, s.heap.size ≤ q → (va_A ([(o, .inr (1, [.null, .int 0, .int 0, .int 0, .null, .int 0]))]) s.heap.size) q := fun _ => Or.inr
  have hS : va_S (va_A ([(o, .inr (1, [.null, .int 0, .int 0, .int 0, .null, .int 0]))]) s.heap.size) s.heap s.heap [] := va_S.rf
  have hl : lv_has ls 1 [(0, .ref o)] := hl
  obtain ⟨hx, hb, hr, hml, hown, hts, hlocks⟩ := id C0
  have hF : CallFix p m c cX1_init 1 s _ BW RX1 := ⟨hx, hb, hml, hown, hts⟩
  refine lv_aload_n hx hb dX1_init_0 rfl (lv_at hl 0 rfl) ?_
  refine W.objInit hx hb hown (hts _ mw_54) (hts _ mw_4) (hts _ mw_5) rfl (by rw [hml]; exact hl.1) rfl dX1_init_1 (Nat.le_of_ble_eq_true rfl) (Nat.le_of_ble_eq_true rfl) ?_
  refine W.eq (g2 := F0 m 4 ls []) rfl ?_
  refine lv_aload_n hx hb dX1_init_4 rfl (lv_at hl 0 rfl) ?_
  refine lv_bipush (v := 80) hx hb dX1_init_5 (by decide) ?_
  refine x_newi hx hb (hts _ mw_11) hK hP hD hS hA 80 (by decide) (by decide) (by decide) (Nat.le_of_ble_eq_true rfl) (Nat.le_of_ble_eq_true rfl) dX1_init_7 (fun q1 H hP hD hS => ?_)
  have hP : va_P D vwCl (([(o, .inr (1, [.null, .int 0, .int 0, .int 0, .null, .int 0]))]) ++ ([(q1, .inl (cI, 80, .inl (fun _ => 0)))])) H := hP
  have hD : va_D (va_A ([(o, .inr (1, [.null, .int 0, .int 0, .int 0, .null, .int 0]))]) s.heap.size) (([(o, .inr (1, [.null, .int 0, .int 0, .int 0, .null, .int 0]))]) ++ ([(q1, .inl (cI, 80, .inl (fun _ => 0)))])) := hD
  refine va_putF (D := D) (v := .ref q1) (ty := .array .int) (C := RX1) (T := TX1) (N := 6) hx hb hts iw_X1 tyX1 tyX1_ok nmX1 hown hK hP hD hS 0 rfl rfl 0 (by decide) (hts _ mw_55) (fun _ h9 => h9) rfl hname rfl (by decide +kernel) rfl rfl (Nat.le_of_ble_eq_true rfl) dX1_init_9 (fun H locs hP hD hS => ?_)
  have hP : va_P D vwCl (([(o, .inr (1, [.ref q1, .int 0, .int 0, .int 0, .null, .int 0]))]) ++ ([(q1, .inl (cI, 80, .inl (fun _ => 0)))])) H := hP
  have hD : va_D (va_A ([(o, .inr (1, [.null, .int 0, .int 0, .int 0, .null, .int 0]))]) s.heap.size) (([(o, .inr (1, [.ref q1, .int 0, .int 0, .int 0, .null, .int 0]))]) ++ ([(q1, .inl (cI, 80, .inl (fun _ => 0)))])) := hD
  refine lv_aload_n hx hb dX1_init_12 rfl (lv_at hl 0 rfl) ?_
  refine lv_iconst (v := 0) hx hb dX1_init_13 (by decide) ?_
  refine va_put (D := D) (v := .int (0 : Int32)) (ty := .int) (C := RX1) (T := TX1) (N := 6) hx hb hts iw_X1 tyX1 tyX1_ok nmX1 hown hK hP hD hS 0 rfl rfl 1 (by decide) (hts _ mw_56) (fun _ h9 => h9) rfl (by decide +kernel) rfl rfl (Nat.le_of_ble_eq_true rfl) dX1_init_14 (fun H locs hP hD hS => ?_)
  have hP : va_P D vwCl (([(o, .inr (1, [.ref q1, .int (0 : Int32), .int 0, .int 0, .null, .int 0]))]) ++ ([(q1, .inl (cI, 80, .inl (fun _ => 0)))])) H := hP
  have hD : va_D (va_A ([(o, .inr (1, [.null, .int 0, .int 0, .int 0, .null, .int 0]))]) s.heap.size) (([(o, .inr (1, [.ref q1, .int (0 : Int32), .int 0, .int 0, .null, .int 0]))]) ++ ([(q1, .inl (cI, 80, .inl (fun _ => 0)))])) := hD
  refine lv_aload_n hx hb dX1_init_17 rfl (lv_at hl 0 rfl) ?_
  refine lv_iconst (v := 0) hx hb dX1_init_18 (by decide) ?_
  refine va_put (D := D) (v := .int (0 : Int32)) (ty := .int) (C := RX1) (T := TX1) (N := 6) hx hb hts iw_X1 tyX1 tyX1_ok nmX1 hown hK hP hD hS 0 rfl rfl 2 (by decide) (hts _ mw_57) (fun _ h9 => h9) rfl (by decide +kernel) rfl rfl (Nat.le_of_ble_eq_true rfl) dX1_init_19 (fun H locs hP hD hS => ?_)
  have hP : va_P D vwCl (([(o, .inr (1, [.ref q1, .int (0 : Int32), .int (0 : Int32), .int 0, .null, .int 0]))]) ++ ([(q1, .inl (cI, 80, .inl (fun _ => 0)))])) H := hP
  have hD : va_D (va_A ([(o, .inr (1, [.null, .int 0, .int 0, .int 0, .null, .int 0]))]) s.heap.size) (([(o, .inr (1, [.ref q1, .int (0 : Int32), .int (0 : Int32), .int 0, .null, .int 0]))]) ++ ([(q1, .inl (cI, 80, .inl (fun _ => 0)))])) := hD
  refine lv_aload_n hx hb dX1_init_22 rfl (lv_at hl 0 rfl) ?_
  refine lv_iconst (v := 0) hx hb dX1_init_23 (by decide) ?_
  refine va_put (D := D) (v := .int (0 : Int32)) (ty := .int) (C := RX1) (T := TX1) (N := 6) hx hb hts iw_X1 tyX1 tyX1_ok nmX1 hown hK hP hD hS 0 rfl rfl 3 (by decide) (hts _ mw_58) (fun _ h9 => h9) rfl (by decide +kernel) rfl rfl (Nat.le_of_ble_eq_true rfl) dX1_init_24 (fun H locs hP hD hS => ?_)
  have hP : va_P D vwCl (([(o, .inr (1, [.ref q1, .int (0 : Int32), .int (0 : Int32), .int (0 : Int32), .null, .int 0]))]) ++ ([(q1, .inl (cI, 80, .inl (fun _ => 0)))])) H := hP
  have hD : va_D (va_A ([(o, .inr (1, [.null, .int 0, .int 0, .int 0, .null, .int 0]))]) s.heap.size) (([(o, .inr (1, [.ref q1, .int (0 : Int32), .int (0 : Int32), .int (0 : Int32), .null, .int 0]))]) ++ ([(q1, .inl (cI, 80, .inl (fun _ => 0)))])) := hD
  refine lv_aload_n hx hb dX1_init_27 rfl (lv_at hl 0 rfl) ?_
  refine lv_iconst (v := 3) hx hb dX1_init_28 (by decide) ?_
  refine x_newi hx hb (hts _ mw_11) hK hP hD hS hA 3 (by decide) (by decide) (by decide) (Nat.le_of_ble_eq_true rfl) (Nat.le_of_ble_eq_true rfl) dX1_init_29 (fun q2 H hP hD hS => ?_)
  have hP : va_P D vwCl (([(o, .inr (1, [.ref q1, .int (0 : Int32), .int (0 : Int32), .int (0 : Int32), .null, .int 0]))]) ++ ([(q1, .inl (cI, 80, .inl (fun _ => 0)))]) ++ ([(q2, .inl (cI, 3, .inl (fun _ => 0)))])) H := hP
  have hD : va_D (va_A ([(o, .inr (1, [.null, .int 0, .int 0, .int 0, .null, .int 0]))]) s.heap.size) (([(o, .inr (1, [.ref q1, .int (0 : Int32), .int (0 : Int32), .int (0 : Int32), .null, .int 0]))]) ++ ([(q1, .inl (cI, 80, .inl (fun _ => 0)))]) ++ ([(q2, .inl (cI, 3, .inl (fun _ => 0)))])) := hD
  refine va_putF (D := D) (v := .ref q2) (ty := .array .int) (C := RX1) (T := TX1) (N := 6) hx hb hts iw_X1 tyX1 tyX1_ok nmX1 hown hK hP hD hS 0 rfl rfl 4 (by decide) (hts _ mw_59) (fun _ h9 => h9) rfl hname rfl (by decide +kernel) rfl rfl (Nat.le_of_ble_eq_true rfl) dX1_init_31 (fun H locs hP hD hS => ?_)
  have hP : va_P D vwCl (([(o, .inr (1, [.ref q1, .int (0 : Int32), .int (0 : Int32), .int (0 : Int32), .ref q2, .int 0]))]) ++ ([(q1, .inl (cI, 80, .inl (fun _ => 0)))]) ++ ([(q2, .inl (cI, 3, .inl (fun _ => 0)))])) H := hP
  have hD : va_D (va_A ([(o, .inr (1, [.null, .int 0, .int 0, .int 0, .null, .int 0]))]) s.heap.size) (([(o, .inr (1, [.ref q1, .int (0 : Int32), .int (0 : Int32), .int (0 : Int32), .ref q2, .int 0]))]) ++ ([(q1, .inl (cI, 80, .inl (fun _ => 0)))]) ++ ([(q2, .inl (cI, 3, .inl (fun _ => 0)))])) := hD
  refine lv_aload_n hx hb dX1_init_34 rfl (lv_at hl 0 rfl) ?_
  refine lv_iconst (v := 0) hx hb dX1_init_35 (by decide) ?_
  refine va_put (D := D) (v := .int (0 : Int32)) (ty := .int) (C := RX1) (T := TX1) (N := 6) hx hb hts iw_X1 tyX1 tyX1_ok nmX1 hown hK hP hD hS 0 rfl rfl 5 (by decide) (hts _ mw_60) (fun _ h9 => h9) rfl (by decide +kernel) rfl rfl (Nat.le_of_ble_eq_true rfl) dX1_init_36 (fun H locs hP hD hS => ?_)
  have hP : va_P D vwCl (([(o, .inr (1, [.ref q1, .int (0 : Int32), .int (0 : Int32), .int (0 : Int32), .ref q2, .int (0 : Int32)]))]) ++ ([(q1, .inl (cI, 80, .inl (fun _ => 0)))]) ++ ([(q2, .inl (cI, 3, .inl (fun _ => 0)))])) H := hP
  have hD : va_D (va_A ([(o, .inr (1, [.null, .int 0, .int 0, .int 0, .null, .int 0]))]) s.heap.size) (([(o, .inr (1, [.ref q1, .int (0 : Int32), .int (0 : Int32), .int (0 : Int32), .ref q2, .int (0 : Int32)]))]) ++ ([(q1, .inl (cI, 80, .inl (fun _ => 0)))]) ++ ([(q2, .inl (cI, 3, .inl (fun _ => 0)))])) := hD
  have hP : va_P D vwCl (wPd cI o q1 q2 pd0) H := hP
  have hD : va_D (va_A ([(o, .inr (1, [.null, .int 0, .int 0, .int 0, .null, .int 0]))]) s.heap.size) (wPd cI o q1 q2 pd0) := hD
  exact x_retC (S9 := Nat × Nat) (w1 := fun u => wPd cI o u.1 u.2 pd0) (q1, q2) C0 hP hD hS dX1_init_39
abbrev mm0 : MM := (fun _ => 0, fun _ => 0, fun _ => 0, 0, fun _ => 0, fun _ => 0, fun _ => 0, 0, 0, 0)
end G_N

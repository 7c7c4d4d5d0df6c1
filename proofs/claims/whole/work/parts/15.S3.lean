section G_S3
variable {p : Program} {l : Launch} {e : Env} {s : State} {m : MethodId} {args : Array Value} {below : List Frame} {meth : Method} {c : Code} {D : va_G} {cI cZ cT : ClassId}

/-! QuarrelWays.Pad.readOrder ()Z -/
def f_X1_readOrder_L46 (x3 : Nat) : Nat → PP → Int32 → Option (Int32 × PP)
  | 0, _, _ => none
  | n + 1, z0, y2 => ((f_J0_length_8abf5 x3).bind fun x8 => (if x8 ≤ y2 then some ((1 : Int32), z0) else ((f_J0_charAt_5068e x3 y2).bind fun x11 => ((f_X1_readPart z0 x11).bind fun x13 => (if x13.1 = 0 then some ((0 : Int32), x13.2) else f_X1_readOrder_L46 x3 n x13.2 (y2 + (1 : Int32)))))))
def f_X1_readOrder (t : PP) : Option (Int32 × PP) := ((f_X1_signAt t t.2.2.1).bind fun x1 => ((f_X1_formOf ((P5 (P3 t x1) (0 : Int32)).2.2.2.1)).bind fun x3 => ((f_J0_isEmpty_aae02 x3).bind fun x5 => (if x5 = 0 then f_X1_readOrder_L46 x3 2000 (P2 (P5 (P3 t x1) (0 : Int32)) ((P5 (P3 t x1) (0 : Int32)).2.2.1 + (1 : Int32))) (0 : Int32) else some ((0 : Int32), (P5 (P3 t x1) (0 : Int32)))))))
abbrev rm_X1_readOrder : Room := { frames := 4, cells := 0, slots := 0, locals := 85 }
theorem hd_X1_readOrder : yX1_readOrder.cls = RX1 ∧ yX1_readOrder.cls ≠ "java/lang/invoke/MethodHandle" ∧ yX1_readOrder.cls ≠ "java/lang/invoke/VarHandle" ∧ (parseMethodDescriptor yX1_readOrder.desc).map (fun d => d.parameters.length) = some 0 := by decide +kernel
set_option maxHeartbeats 4000000 in
set_option maxRecDepth 100000 in
theorem k_X1_readOrder_L46 {r : Int32 × PP} (o sg nm : Nat) (t : PP) (hA : ∀ q, s.heap.size ≤ q → (va_A (wPd cI o sg nm t) s.heap.size) q) (x3 : Nat) (hi : x3 < 7) {G : q_G} (hE : q_E G (va_A (wPd cI o sg nm t) s.heap.size) s) (C0 : q_At p s m args meth c cX1_readOrder 3 (some .boolean) RX1) (hK : va_K D vwCl (q_tys cI cZ cT) s) : ∀ (n : Nat) (z0 : PP) (y2 : Int32) (H : Heap) (locs : List Loc) (ls : Array Slot), va_P D vwCl (wPd cI o sg nm z0) H → va_D (va_A (wPd cI o sg nm t) s.heap.size) (wPd cI o sg nm z0) → va_S (va_A (wPd cI o sg nm t) s.heap.size) s.heap H locs → lv_has ls 3 [(0, .ref o), (1, .ref (G.1 x3)), (2, .int y2)] → f_X1_readOrder_L46 x3 n z0 y2 = some r → W p l e rm_X1_readOrder s m args below meth c H locs 0 0 (q_QM D below args s (wPd cI o sg nm t) (wPd cI o sg nm r.2) r.1) (F0 m 46 ls []) := by
  obtain ⟨hx, hb, hr, hml, hown, hts, hlocks⟩ := id C0
  have hF : CallFix p m c cX1_readOrder 3 s args BW RX1 := ⟨hx, hb, hml, hown, hts⟩
  intro n
  induction n with
  | zero =>
    intro z0 y2 H locs ls hP hD hS hl h
    rw [f_X1_readOrder_L46] at h
    cases h
  | succ n ih =>
    intro z0 y2 H locs ls hP hD hS hl h
    rw [f_X1_readOrder_L46] at h
    refine lv_iload_n hx hb dX1_readOrder_46 rfl (lv_at hl 2 rfl) ?_
    refine lv_aload_n hx hb dX1_readOrder_47 rfl (lv_at hl 1 rfl) ?_
    obtain ⟨x8, h9, h⟩ := bE h
    refine x_RVs (As := []) (rest := [.int y2]) hF (c_J0_length_8abf5 l D cI cZ cT G (va_A (wPd cI o sg nm t) s.heap.size)  x3 hi  x8 h9) (cwV 0 hts (gqV mw_138 mw_139 mw_140 mw_83 mw_79) rfl rfl rfl hd_J0_length_8abf5 ⟨Nat.le_of_ble_eq_true rfl, Nat.le_of_ble_eq_true rfl⟩) hK hP q_E_bl (q_E_go hE hS (fun _ h9 => h9)) [] rfl (vk_recv hE.2.1 hi hS) rfl hl.1 rfl (Nat.le_of_ble_eq_true rfl) dX1_readOrder_48 ⟨Nat.zero_le _, Nat.zero_le _⟩ ?_
    refine lv_icmp_ge (tgt := 74) hx hb dX1_readOrder_51 (by decide) (fun c10 => ?_) (fun c10 => ?_)
    · have h := xt c10 h
      refine lv_iconst (v := 1) hx hb dX1_readOrder_74 (by decide) ?_
      cases h
      exact x_retM C0 narrow_b1 hP hD hS dX1_readOrder_75
    · have h := xf c10 h
      refine lv_aload_n hx hb dX1_readOrder_54 rfl (lv_at hl 0 rfl) ?_
      refine lv_aload_n hx hb dX1_readOrder_55 rfl (lv_at hl 1 rfl) ?_
      refine lv_iload_n hx hb dX1_readOrder_56 rfl (lv_at hl 2 rfl) ?_
      obtain ⟨x11, h12, h⟩ := bE h
      refine x_RVs (As := [.int y2]) (rest := [.ref o]) hF (c_J0_charAt_5068e l D cI cZ cT G (va_A (wPd cI o sg nm t) s.heap.size)  x3 hi y2 x11 h12) (cwV 1 hts (gqV mw_141 mw_142 mw_143 mw_83 mw_117) rfl rfl rfl hd_J0_charAt_5068e ⟨Nat.le_of_ble_eq_true rfl, Nat.le_of_ble_eq_true rfl⟩) hK hP q_E_bl (q_E_go hE hS (fun _ h9 => h9)) [] rfl (vk_recv hE.2.1 hi hS) rfl hl.1 rfl (Nat.le_of_ble_eq_true rfl) dX1_readOrder_57 ⟨Nat.zero_le _, Nat.zero_le _⟩ ?_
      obtain ⟨x13, h14, h⟩ := bE h
      refine x_MV (As := [.int x11]) (rest := []) (wr := []) (W1 := wPd cI o sg nm x13.2) hF (c_X1_readPart l D cI cZ cT _ o sg nm z0 x11 x13 h14) (cwV 1 hts (gqV mw_144 mw_145 mw_146 mw_70 mw_129) rfl rfl rfl hd_X1_readPart ⟨Nat.le_of_ble_eq_true rfl, Nat.le_of_ble_eq_true rfl⟩) hK hP hD hS hA q_T_bl (fun _ _ _ => trivial) [0, 1, 2] [] [0, 1, 2] rfl rfl ⟨rfl, rfl, rfl, rfl⟩ rfl rfl rfl rfl hl.1 rfl (Nat.le_of_ble_eq_true rfl) dX1_readOrder_60 ⟨Nat.zero_le _, Nat.zero_le _⟩ (fun H locs hP hD hS => ?_)
      refine lv_if_ne (tgt := 68) hx hb dX1_readOrder_63 (by decide) (fun c15 => ?_) (fun c15 => ?_)
      · have h := xf c15 h
        refine lv_iinc (v := (y2 + (1 : Int32))) (lv' := [(2, .int (y2 + (1 : Int32))), (0, .ref o), (1, .ref (G.1 x3))]) hx hb dX1_readOrder_68 hl (k := 2) rfl rfl (by decide) rfl (fun ls hl => ?_)
        refine lv_goto (tgt := 46) hx hb dX1_readOrder_71 (by decide) ?_
        exact ih x13.2 (y2 + (1 : Int32)) _ _ _ hP hD hS (lv_sub hl [1, 2, 0] rfl) h
      · have h := xt c15 h
        refine lv_iconst (v := 0) hx hb dX1_readOrder_66 (by decide) ?_
        cases h
        exact x_retM C0 narrow_b0 hP hD hS dX1_readOrder_67
set_option maxHeartbeats 4000000 in
set_option maxRecDepth 100000 in
theorem c_X1_readOrder (l : Launch) (D : va_G) (cI cZ cT : ClassId) (G : q_G) (sz : Nat) (o sg nm : Nat) (t : PP) (r : Int32 × PP) (h : f_X1_readOrder t = some r) : Met l yX1_readOrder (wq yX1_readOrder cX1_readOrder 3 (some .boolean)) rm_X1_readOrder (q_M D (q_tys cI cZ cT) sz (wPd cI o sg nm t) (q_E G (va_A (wPd cI o sg nm t) sz)) [.ref o]) (va_Qi (fun r' _ => r' = r.1) (q_B D (wPd cI o sg nm t) sz (wPd cI o sg nm r.2)) (va_A (wPd cI o sg nm t) sz)) 0 0 (va_A (wPd cI o sg nm t) sz) := by
  refine q_MI (cc := cX1_readOrder) (maxL := 3) (ret := (some .boolean)) (E := fun sz => (q_E G (va_A (wPd cI o sg nm t) sz))) (Qc := fun sz => (va_Qi (fun r' _ => r' = r.1) (q_B D (wPd cI o sg nm t) sz (wPd cI o sg nm r.2)) (va_A (wPd cI o sg nm t) sz))) (free := fun sz => va_A (wPd cI o sg nm t) sz) (plainFor_of_name (by decide)) (Nat.le_of_ble_eq_true rfl) (fun p e s m below meth c C0 hname hP hK hD hE ls hl => ?_)
  have hA : ∀ q, s.heap.size ≤ q → (va_A (wPd cI o sg nm t) s.heap.size) q := fun _ => Or.inr
  have hS : va_S (va_A (wPd cI o sg nm t) s.heap.size) s.heap s.heap [] := va_S.rf
  have hE : q_E G (va_A (wPd cI o sg nm t) s.heap.size) s := hE
  have hl : lv_has ls 3 [(0, .ref o)] := hl
  obtain ⟨hx, hb, hr, hml, hown, hts, hlocks⟩ := id C0
  have hF : CallFix p m c cX1_readOrder 3 s _ BW RX1 := ⟨hx, hb, hml, hown, hts⟩
  rw [f_X1_readOrder] at h
  refine lv_aload_n hx hb dX1_readOrder_0 rfl (lv_at hl 0 rfl) ?_
  refine lv_aload_n hx hb dX1_readOrder_1 rfl (lv_at hl 0 rfl) ?_
  refine lv_aload_n hx hb dX1_readOrder_2 rfl (lv_at hl 0 rfl) ?_
  refine va_get (D := D) (v := .int t.2.2.1) (C := RX1) (T := TX1) (N := 6) hx hb hts iw_X1 hown hK hP 0 rfl rfl 2 (by decide) (hts _ mw_57) (fun _ h9 => h9) rfl dX1_readOrder_3 ?_
  obtain ⟨x1, h2, h⟩ := bE h
  refine x_RV (As := [.int t.2.2.1]) (rest := [.ref o]) hF (c_X1_signAt l D cI cZ cT o sg nm t t.2.2.1 x1 h2) (cwV 1 hts (gqV mw_121 mw_122 mw_123 mw_70 mw_71) rfl rfl rfl hd_X1_signAt ⟨Nat.le_of_ble_eq_true rfl, Nat.le_of_ble_eq_true rfl⟩) hK hP q_T_bl (fun _ _ _ => trivial) [0, 1, 2] rfl rfl rfl rfl hl.1 rfl (Nat.le_of_ble_eq_true rfl) dX1_readOrder_6 ⟨Nat.zero_le _, Nat.zero_le _⟩ ?_
  refine va_put (D := D) (v := .int x1) (ty := .int) (C := RX1) (T := TX1) (N := 6) hx hb hts iw_X1 tyX1 tyX1_ok nmX1 hown hK hP hD hS 0 rfl rfl 3 (by decide) (hts _ mw_58) (fun _ h9 => h9) rfl (by decide +kernel) rfl rfl (Nat.le_of_ble_eq_true rfl) dX1_readOrder_9 (fun H locs hP hD hS => ?_)
  have hP : va_P D vwCl (wPd cI o sg nm (P3 t x1)) H := hP
  have hD : va_D (va_A (wPd cI o sg nm t) s.heap.size) (wPd cI o sg nm (P3 t x1)) := hD
  refine lv_aload_n hx hb dX1_readOrder_12 rfl (lv_at hl 0 rfl) ?_
  refine lv_iconst (v := 0) hx hb dX1_readOrder_13 (by decide) ?_
  refine va_put (D := D) (v := .int (0 : Int32)) (ty := .int) (C := RX1) (T := TX1) (N := 6) hx hb hts iw_X1 tyX1 tyX1_ok nmX1 hown hK hP hD hS 0 rfl rfl 5 (by decide) (hts _ mw_60) (fun _ h9 => h9) rfl (by decide +kernel) rfl rfl (Nat.le_of_ble_eq_true rfl) dX1_readOrder_14 (fun H locs hP hD hS => ?_)
  have hP : va_P D vwCl (wPd cI o sg nm (P5 (P3 t x1) (0 : Int32))) H := hP
  have hD : va_D (va_A (wPd cI o sg nm t) s.heap.size) (wPd cI o sg nm (P5 (P3 t x1) (0 : Int32))) := hD
  refine lv_aload_n hx hb dX1_readOrder_17 rfl (lv_at hl 0 rfl) ?_
  refine va_get (D := D) (v := .int ((P5 (P3 t x1) (0 : Int32)).2.2.2.1)) (C := RX1) (T := TX1) (N := 6) hx hb hts iw_X1 hown hK hP 0 rfl rfl 3 (by decide) (hts _ mw_58) (fun _ h9 => h9) rfl dX1_readOrder_18 ?_
  obtain ⟨x3, h4, h⟩ := bE h
  refine x_RSt (As := [.int ((P5 (P3 t x1) (0 : Int32)).2.2.2.1)]) (rest := []) hF (c_X1_formOf l D cI cZ cT G (va_A (wPd cI o sg nm t) s.heap.size)  ((P5 (P3 t x1) (0 : Int32)).2.2.2.1) x3 h4) (va_cwS 1 hts (gqS mw_133 mw_134 mw_70 mw_73) rfl rfl rfl hd_X1_formOf.2 ⟨Nat.le_of_ble_eq_true rfl, Nat.le_of_ble_eq_true rfl⟩) hK hP q_E_bl (q_E_go hE hS (fun _ h9 => h9)) [] rfl rfl hl.1 rfl (Nat.le_of_ble_eq_true rfl) dX1_readOrder_21 ⟨Nat.zero_le _, Nat.zero_le _⟩ ?_
  have hi := formOf_lt h4
  refine lv_astore_n (lv' := [(1, .ref (G.1 x3)), (0, .ref o)]) hx hb dX1_readOrder_24 rfl hl (by decide) rfl (fun ls hl => ?_)
  refine lv_aload_n hx hb dX1_readOrder_25 rfl (lv_at hl 0 rfl) ?_
  obtain ⟨x5, h6, h⟩ := bE h
  refine x_RVs (As := []) (rest := []) hF (c_J0_isEmpty_aae02 l D cI cZ cT G (va_A (wPd cI o sg nm t) s.heap.size)  x3 hi  x5 h6) (cwV 0 hts (gqV mw_135 mw_136 mw_137 mw_83 mw_74) rfl rfl rfl hd_J0_isEmpty_aae02 ⟨Nat.le_of_ble_eq_true rfl, Nat.le_of_ble_eq_true rfl⟩) hK hP q_E_bl (q_E_go hE hS (fun _ h9 => h9)) [] rfl (vk_recv hE.2.1 hi hS) rfl hl.1 rfl (Nat.le_of_ble_eq_true rfl) dX1_readOrder_26 ⟨Nat.zero_le _, Nat.zero_le _⟩ ?_
  refine lv_if_eq (tgt := 34) hx hb dX1_readOrder_29 (by decide) (fun c7 => ?_) (fun c7 => ?_)
  · have h := xt c7 h
    refine lv_aload_n hx hb dX1_readOrder_34 rfl (lv_at hl 1 rfl) ?_
    refine lv_dup hx hb dX1_readOrder_35 rfl ?_
    refine va_get (D := D) (v := .int ((P5 (P3 t x1) (0 : Int32)).2.2.1)) (C := RX1) (T := TX1) (N := 6) hx hb hts iw_X1 hown hK hP 0 rfl rfl 2 (by decide) (hts _ mw_57) (fun _ h9 => h9) rfl dX1_readOrder_36 ?_
    refine lv_iconst (v := 1) hx hb dX1_readOrder_39 (by decide) ?_
    refine lv_iadd hx hb dX1_readOrder_40 ?_
    refine va_put (D := D) (v := .int ((P5 (P3 t x1) (0 : Int32)).2.2.1 + (1 : Int32))) (ty := .int) (C := RX1) (T := TX1) (N := 6) hx hb hts iw_X1 tyX1 tyX1_ok nmX1 hown hK hP hD hS 0 rfl rfl 2 (by decide) (hts _ mw_57) (fun _ h9 => h9) rfl (by decide +kernel) rfl rfl (Nat.le_of_ble_eq_true rfl) dX1_readOrder_41 (fun H locs hP hD hS => ?_)
    have hP : va_P D vwCl (wPd cI o sg nm (P2 (P5 (P3 t x1) (0 : Int32)) ((P5 (P3 t x1) (0 : Int32)).2.2.1 + (1 : Int32)))) H := hP
    have hD : va_D (va_A (wPd cI o sg nm t) s.heap.size) (wPd cI o sg nm (P2 (P5 (P3 t x1) (0 : Int32)) ((P5 (P3 t x1) (0 : Int32)).2.2.1 + (1 : Int32)))) := hD
    refine lv_iconst (v := 0) hx hb dX1_readOrder_44 (by decide) ?_
    refine lv_istore_n (lv' := [(2, .int (0 : Int32)), (1, .ref (G.1 x3)), (0, .ref o)]) hx hb dX1_readOrder_45 rfl hl (by decide) rfl (fun ls hl => ?_)
    exact k_X1_readOrder_L46 o sg nm t hA x3 hi hE C0 hK 2000 (P2 (P5 (P3 t x1) (0 : Int32)) ((P5 (P3 t x1) (0 : Int32)).2.2.1 + (1 : Int32))) (0 : Int32) _ _ _ hP hD hS (lv_sub hl [2, 1, 0] rfl) h
  · have h := xf c7 h
    refine lv_iconst (v := 0) hx hb dX1_readOrder_32 (by decide) ?_
    cases h
    exact x_retM C0 narrow_b0 hP hD hS dX1_readOrder_33

/-! QuarrelWays.Pad.firstFault ()I -/
def f_X1_firstFault_L7 : Nat → PP → Int32 → Option (Int32 × PP)
  | 0, _, _ => none
  | n + 1, z0, y1 => (if (80 : Int32) ≤ y1 then some (z0.2.2.1, z0) else ((f_X1_readOrder z0).bind fun x2 => (if x2.1 = 0 then some (x2.2.2.2.1, x2.2) else (if x2.2.2.2.1 < x2.2.2.1 then ((f_X1_signAt x2.2 x2.2.2.2.1).bind fun x6 => (if x6 = (59 : Int32) then f_X1_firstFault_L7 n (P2 x2.2 (x2.2.2.2.1 + (1 : Int32))) (y1 + (1 : Int32)) else some (x2.2.2.2.1, x2.2))) else some ((-6 : Int32), x2.2)))))
def f_X1_firstFault (t : PP) : Option (Int32 × PP) := f_X1_firstFault_L7 2000 (P2 t (0 : Int32)) (0 : Int32)
abbrev rm_X1_firstFault : Room := { frames := 5, cells := 0, slots := 0, locals := 107 }
theorem hd_X1_firstFault : yX1_firstFault.cls = RX1 ∧ yX1_firstFault.cls ≠ "java/lang/invoke/MethodHandle" ∧ yX1_firstFault.cls ≠ "java/lang/invoke/VarHandle" ∧ (parseMethodDescriptor yX1_firstFault.desc).map (fun d => d.parameters.length) = some 0 := by decide +kernel
set_option maxHeartbeats 4000000 in
set_option maxRecDepth 100000 in
theorem k_X1_firstFault_L7 {r : Int32 × PP} (o sg nm : Nat) (t : PP) (hA : ∀ q, s.heap.size ≤ q → (va_A (wPd cI o sg nm t) s.heap.size) q) {G : q_G} (hE : q_E G (va_A (wPd cI o sg nm t) s.heap.size) s) (C0 : q_At p s m args meth c cX1_firstFault 2 (some .int) RX1) (hK : va_K D vwCl (q_tys cI cZ cT) s) : ∀ (n : Nat) (z0 : PP) (y1 : Int32) (H : Heap) (locs : List Loc) (ls : Array Slot), va_P D vwCl (wPd cI o sg nm z0) H → va_D (va_A (wPd cI o sg nm t) s.heap.size) (wPd cI o sg nm z0) → va_S (va_A (wPd cI o sg nm t) s.heap.size) s.heap H locs → lv_has ls 2 [(0, .ref o), (1, .int y1)] → f_X1_firstFault_L7 n z0 y1 = some r → W p l e rm_X1_firstFault s m args below meth c H locs 0 0 (q_QM D below args s (wPd cI o sg nm t) (wPd cI o sg nm r.2) r.1) (F0 m 7 ls []) := by
  obtain ⟨hx, hb, hr, hml, hown, hts, hlocks⟩ := id C0
  have hF : CallFix p m c cX1_firstFault 2 s args BW RX1 := ⟨hx, hb, hml, hown, hts⟩
  intro n
  induction n with
  | zero =>
    intro z0 y1 H locs ls hP hD hS hl h
    rw [f_X1_firstFault_L7] at h
    cases h
  | succ n ih =>
    intro z0 y1 H locs ls hP hD hS hl h
    rw [f_X1_firstFault_L7] at h
    refine lv_iload_n hx hb dX1_firstFault_7 rfl (lv_at hl 1 rfl) ?_
    refine lv_bipush (v := 80) hx hb dX1_firstFault_8 (by decide) ?_
    refine lv_icmp_ge (tgt := 68) hx hb dX1_firstFault_10 (by decide) (fun c1 => ?_) (fun c1 => ?_)
    · have h := xt c1 h
      refine lv_aload_n hx hb dX1_firstFault_68 rfl (lv_at hl 0 rfl) ?_
      refine va_get (D := D) (v := .int z0.2.2.1) (C := RX1) (T := TX1) (N := 6) hx hb hts iw_X1 hown hK hP 0 rfl rfl 2 (by decide) (hts _ mw_57) (fun _ h9 => h9) rfl dX1_firstFault_69 ?_
      cases h
      exact x_retM C0 rfl hP hD hS dX1_firstFault_72
    · have h := xf c1 h
      refine lv_aload_n hx hb dX1_firstFault_13 rfl (lv_at hl 0 rfl) ?_
      obtain ⟨x2, h3, h⟩ := bE h
      refine x_MV (As := []) (rest := []) (wr := []) (W1 := wPd cI o sg nm x2.2) hF (c_X1_readOrder l D cI cZ cT G _ o sg nm z0  x2 h3) (cwV 0 hts (gqV mw_148 mw_149 mw_150 mw_70 mw_147) rfl rfl rfl hd_X1_readOrder ⟨Nat.le_of_ble_eq_true rfl, Nat.le_of_ble_eq_true rfl⟩) hK hP hD hS hA q_E_bl (q_E_go hE hS (va_free hD hS hA [0, 1, 2] rfl)) [0, 1, 2] [] [0, 1, 2] rfl rfl ⟨rfl, rfl, rfl, rfl⟩ rfl rfl rfl rfl hl.1 rfl (Nat.le_of_ble_eq_true rfl) dX1_firstFault_14 ⟨Nat.zero_le _, Nat.zero_le _⟩ (fun H locs hP hD hS => ?_)
      refine lv_if_eq (tgt := 68) hx hb dX1_firstFault_17 (by decide) (fun c4 => ?_) (fun c4 => ?_)
      · have h := xt c4 h
        refine lv_aload_n hx hb dX1_firstFault_68 rfl (lv_at hl 0 rfl) ?_
        refine va_get (D := D) (v := .int x2.2.2.2.1) (C := RX1) (T := TX1) (N := 6) hx hb hts iw_X1 hown hK hP 0 rfl rfl 2 (by decide) (hts _ mw_57) (fun _ h9 => h9) rfl dX1_firstFault_69 ?_
        cases h
        exact x_retM C0 rfl hP hD hS dX1_firstFault_72
      · have h := xf c4 h
        refine lv_aload_n hx hb dX1_firstFault_20 rfl (lv_at hl 0 rfl) ?_
        refine va_get (D := D) (v := .int x2.2.2.2.1) (C := RX1) (T := TX1) (N := 6) hx hb hts iw_X1 hown hK hP 0 rfl rfl 2 (by decide) (hts _ mw_57) (fun _ h9 => h9) rfl dX1_firstFault_21 ?_
        refine lv_aload_n hx hb dX1_firstFault_24 rfl (lv_at hl 0 rfl) ?_
        refine va_get (D := D) (v := .int x2.2.2.1) (C := RX1) (T := TX1) (N := 6) hx hb hts iw_X1 hown hK hP 0 rfl rfl 1 (by decide) (hts _ mw_56) (fun _ h9 => h9) rfl dX1_firstFault_25 ?_
        refine lv_icmp_lt (tgt := 34) hx hb dX1_firstFault_28 (by decide) (fun c5 => ?_) (fun c5 => ?_)
        · have h := xt c5 h
          refine lv_aload_n hx hb dX1_firstFault_34 rfl (lv_at hl 0 rfl) ?_
          refine lv_aload_n hx hb dX1_firstFault_35 rfl (lv_at hl 0 rfl) ?_
          refine va_get (D := D) (v := .int x2.2.2.2.1) (C := RX1) (T := TX1) (N := 6) hx hb hts iw_X1 hown hK hP 0 rfl rfl 2 (by decide) (hts _ mw_57) (fun _ h9 => h9) rfl dX1_firstFault_36 ?_
          obtain ⟨x6, h7, h⟩ := bE h
          refine x_RV (As := [.int x2.2.2.2.1]) (rest := []) hF (c_X1_signAt l D cI cZ cT o sg nm x2.2 x2.2.2.2.1 x6 h7) (cwV 1 hts (gqV mw_121 mw_122 mw_123 mw_70 mw_71) rfl rfl rfl hd_X1_signAt ⟨Nat.le_of_ble_eq_true rfl, Nat.le_of_ble_eq_true rfl⟩) hK hP q_T_bl (fun _ _ _ => trivial) [0, 1, 2] rfl rfl rfl rfl hl.1 rfl (Nat.le_of_ble_eq_true rfl) dX1_firstFault_39 ⟨Nat.zero_le _, Nat.zero_le _⟩ ?_
          refine lv_bipush (v := 59) hx hb dX1_firstFault_42 (by decide) ?_
          refine lv_icmp_eq (tgt := 52) hx hb dX1_firstFault_44 (by decide) (fun c8 => ?_) (fun c8 => ?_)
          · have h := xt c8 h
            refine lv_aload_n hx hb dX1_firstFault_52 rfl (lv_at hl 0 rfl) ?_
            refine lv_dup hx hb dX1_firstFault_53 rfl ?_
            refine va_get (D := D) (v := .int x2.2.2.2.1) (C := RX1) (T := TX1) (N := 6) hx hb hts iw_X1 hown hK hP 0 rfl rfl 2 (by decide) (hts _ mw_57) (fun _ h9 => h9) rfl dX1_firstFault_54 ?_
            refine lv_iconst (v := 1) hx hb dX1_firstFault_57 (by decide) ?_
            refine lv_iadd hx hb dX1_firstFault_58 ?_
            refine va_put (D := D) (v := .int (x2.2.2.2.1 + (1 : Int32))) (ty := .int) (C := RX1) (T := TX1) (N := 6) hx hb hts iw_X1 tyX1 tyX1_ok nmX1 hown hK hP hD hS 0 rfl rfl 2 (by decide) (hts _ mw_57) (fun _ h9 => h9) rfl (by decide +kernel) rfl rfl (Nat.le_of_ble_eq_true rfl) dX1_firstFault_59 (fun H locs hP hD hS => ?_)
            have hP : va_P D vwCl (wPd cI o sg nm (P2 x2.2 (x2.2.2.2.1 + (1 : Int32)))) H := hP
            have hD : va_D (va_A (wPd cI o sg nm t) s.heap.size) (wPd cI o sg nm (P2 x2.2 (x2.2.2.2.1 + (1 : Int32)))) := hD
            refine lv_iinc (v := (y1 + (1 : Int32))) (lv' := [(1, .int (y1 + (1 : Int32))), (0, .ref o)]) hx hb dX1_firstFault_62 hl (k := 1) rfl rfl (by decide) rfl (fun ls hl => ?_)
            refine lv_goto (tgt := 7) hx hb dX1_firstFault_65 (by decide) ?_
            exact ih (P2 x2.2 (x2.2.2.2.1 + (1 : Int32))) (y1 + (1 : Int32)) _ _ _ hP hD hS (lv_sub hl [1, 0] rfl) h
          · have h := xf c8 h
            refine lv_aload_n hx hb dX1_firstFault_47 rfl (lv_at hl 0 rfl) ?_
            refine va_get (D := D) (v := .int x2.2.2.2.1) (C := RX1) (T := TX1) (N := 6) hx hb hts iw_X1 hown hK hP 0 rfl rfl 2 (by decide) (hts _ mw_57) (fun _ h9 => h9) rfl dX1_firstFault_48 ?_
            cases h
            exact x_retM C0 rfl hP hD hS dX1_firstFault_51
        · have h := xf c5 h
          refine lv_bipush (v := (-6)) hx hb dX1_firstFault_31 (by decide) ?_
          cases h
          exact x_retM C0 rfl hP hD hS dX1_firstFault_33
set_option maxHeartbeats 4000000 in
set_option maxRecDepth 100000 in
theorem c_X1_firstFault (l : Launch) (D : va_G) (cI cZ cT : ClassId) (G : q_G) (sz : Nat) (o sg nm : Nat) (t : PP) (r : Int32 × PP) (h : f_X1_firstFault t = some r) : Met l yX1_firstFault (wq yX1_firstFault cX1_firstFault 2 (some .int)) rm_X1_firstFault (q_M D (q_tys cI cZ cT) sz (wPd cI o sg nm t) (q_E G (va_A (wPd cI o sg nm t) sz)) [.ref o]) (va_Qi (fun r' _ => r' = r.1) (q_B D (wPd cI o sg nm t) sz (wPd cI o sg nm r.2)) (va_A (wPd cI o sg nm t) sz)) 0 0 (va_A (wPd cI o sg nm t) sz) := by
  refine q_MI (cc := cX1_firstFault) (maxL := 2) (ret := (some .int)) (E := fun sz => (q_E G (va_A (wPd cI o sg nm t) sz))) (Qc := fun sz => (va_Qi (fun r' _ => r' = r.1) (q_B D (wPd cI o sg nm t) sz (wPd cI o sg nm r.2)) (va_A (wPd cI o sg nm t) sz))) (free := fun sz => va_A (wPd cI o sg nm t) sz) (plainFor_of_name (by decide)) (Nat.le_of_ble_eq_true rfl) (fun p e s m below meth c C0 hname hP hK hD hE ls hl => ?_)
  have hA : ∀ q, s.heap.size ≤ q → (va_A (wPd cI o sg nm t) s.heap.size) q := fun _ => Or.inr
  have hS : va_S (va_A (wPd cI o sg nm t) s.heap.size) s.heap s.heap [] := va_S.rf
  have hE : q_E G (va_A (wPd cI o sg nm t) s.heap.size) s := hE
  have hl : lv_has ls 2 [(0, .ref o)] := hl
  obtain ⟨hx, hb, hr, hml, hown, hts, hlocks⟩ := id C0
  have hF : CallFix p m c cX1_firstFault 2 s _ BW RX1 := ⟨hx, hb, hml, hown, hts⟩
  rw [f_X1_firstFault] at h
  refine lv_aload_n hx hb dX1_firstFault_0 rfl (lv_at hl 0 rfl) ?_
  refine lv_iconst (v := 0) hx hb dX1_firstFault_1 (by decide) ?_
  refine va_put (D := D) (v := .int (0 : Int32)) (ty := .int) (C := RX1) (T := TX1) (N := 6) hx hb hts iw_X1 tyX1 tyX1_ok nmX1 hown hK hP hD hS 0 rfl rfl 2 (by decide) (hts _ mw_57) (fun _ h9 => h9) rfl (by decide +kernel) rfl rfl (Nat.le_of_ble_eq_true rfl) dX1_firstFault_2 (fun H locs hP hD hS => ?_)
  have hP : va_P D vwCl (wPd cI o sg nm (P2 t (0 : Int32))) H := hP
  have hD : va_D (va_A (wPd cI o sg nm t) s.heap.size) (wPd cI o sg nm (P2 t (0 : Int32))) := hD
  refine lv_iconst (v := 0) hx hb dX1_firstFault_5 (by decide) ?_
  refine lv_istore_n (lv' := [(1, .int (0 : Int32)), (0, .ref o)]) hx hb dX1_firstFault_6 rfl hl (by decide) rfl (fun ls hl => ?_)
  exact k_X1_firstFault_L7 o sg nm t hA hE C0 hK 2000 (P2 t (0 : Int32)) (0 : Int32) _ _ _ hP hD hS (lv_sub hl [1, 0] rfl) h

end G_S3

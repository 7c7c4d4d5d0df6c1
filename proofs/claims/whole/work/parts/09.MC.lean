section G_MC
variable {p : Program} {l : Launch} {e : Env} {s : State} {m : MethodId} {args : Array Value} {below : List Frame} {meth : Method} {c : Code} {D : va_G} {cI cZ cT : ClassId}

/-! QuarrelWaysModel.tell (II)V -/
def f_X4_tell_L33 (y1 : Int32) (y2 : Int32) : Nat → (Nat → Int32) → Int32 → Option ((Nat → Int32))
  | 0, _, _ => none
  | n + 1, z0, y3 => (if y3 < (148 : Int32) then some z0 else ((rd z0 181 (y3 - (3 : Int32))).bind fun x9 => ((wr z0 181 y3 x9).bind fun g11 => f_X4_tell_L33 y1 y2 n g11 (y3 + (-1 : Int32)))))
def f_X4_tell (u : Nat → Int32) (a1 : Int32) (a2 : Int32) : Option ((Nat → Int32)) := ((rd u 181 (144 : Int32)).bind fun x1 => ((rd u 181 (144 : Int32)).bind fun x3 => (((if (12 : Int32) ≤ x3 then some (0 : Int32) else some (1 : Int32)) : Option (Int32)).bind fun v5 => ((wr u 181 (144 : Int32) (x1 + v5)).bind fun g6 => ((f_X4_tell_L33 a1 a2 2000 g6 (180 : Int32)).bind fun v13 => ((wr v13 181 (145 : Int32) a1).bind fun g15 => ((rd g15 181 (4 : Int32)).bind fun x17 => ((wr g15 181 (146 : Int32) x17).bind fun g19 => ((wr g19 181 (147 : Int32) a2).bind fun g21 => some g21)))))))))
abbrev rm_X4_tell : Room := { frames := 0, cells := 0, slots := 0, locals := 0 }
theorem hd_X4_tell : yX4_tell.cls = RX4 ∧ yX4_tell.cls ≠ "java/lang/invoke/MethodHandle" ∧ yX4_tell.cls ≠ "java/lang/invoke/VarHandle" ∧ (parseMethodDescriptor yX4_tell.desc).map (fun d => d.parameters.length) = some 2 := by decide +kernel
set_option maxHeartbeats 4000000 in
set_option maxRecDepth 100000 in
theorem k_X4_tell_L33 {Q : State → Prop} {v : (Nat → Int32)} (o : Nat) (fs : List Value) (a : Nat) (hfs : fs[0]? = some (.ref a)) (y1 : Int32) (y2 : Int32) {A : Nat → Prop} (hA : ∀ q, s.heap.size ≤ q → A q) (C0 : q_At p s m args meth c cX4_tell 4 none RX4) (hK : va_K D vwCl (q_tys cI cZ cT) s) (hj : ∀ (H : Heap) (locs : List Loc) (ls : Array Slot), va_P D vwCl (wS cI o fs a v) H → va_D A (wS cI o fs a v) → va_S A s.heap H locs → lv_has ls 4 [(0, .ref o), (1, .int y1), (2, .int y2)] → W p l e rm_X4_tell s m args below meth c H locs 0 0 Q (F0 m 60 ls [])) : ∀ (n : Nat) (z0 : Nat → Int32) (y3 : Int32) (H : Heap) (locs : List Loc) (ls : Array Slot), va_P D vwCl (wS cI o fs a z0) H → va_D A (wS cI o fs a z0) → va_S A s.heap H locs → lv_has ls 4 [(0, .ref o), (1, .int y1), (2, .int y2), (3, .int y3)] → f_X4_tell_L33 y1 y2 n z0 y3 = some v → W p l e rm_X4_tell s m args below meth c H locs 0 0 (Q) (F0 m 33 ls []) := by
  obtain ⟨hx, hb, hr, hml, hown, hts, hlocks⟩ := id C0
  have hF : CallFix p m c cX4_tell 4 s args BW RX4 := ⟨hx, hb, hml, hown, hts⟩
  intro n
  induction n with
  | zero =>
    intro z0 y3 H locs ls hP hD hS hl h
    rw [f_X4_tell_L33] at h
    cases h
  | succ n ih =>
    intro z0 y3 H locs ls hP hD hS hl h
    rw [f_X4_tell_L33] at h
    refine lv_iload_n hx hb dX4_tell_33 rfl (lv_at hl 3 rfl) ?_
    refine lv_sipush (v := 148) hx hb dX4_tell_34 (by decide) ?_
    refine lv_icmp_lt (tgt := 60) hx hb dX4_tell_37 (by decide) (fun c8 => ?_) (fun c8 => ?_)
    · have h := xt c8 h
      cases h
      exact hj _ _ _ hP hD hS (lv_sub hl [0, 1, 2] rfl)
    · have h := xf c8 h
      refine lv_aload_n hx hb dX4_tell_40 rfl (lv_at hl 0 rfl) ?_
      refine va_get (D := D) (v := .ref a) (C := RX4) (T := TX4) (N := 10) hx hb hts iw_X4 hown hK hP 0 rfl rfl 0 (by decide) (hts _ mw_414) (fun _ h9 => h9) hfs dX4_tell_41 ?_
      refine lv_iload_n hx hb dX4_tell_44 rfl (lv_at hl 3 rfl) ?_
      refine lv_aload_n hx hb dX4_tell_45 rfl (lv_at hl 0 rfl) ?_
      refine va_get (D := D) (v := .ref a) (C := RX4) (T := TX4) (N := 10) hx hb hts iw_X4 hown hK hP 0 rfl rfl 0 (by decide) (hts _ mw_414) (fun _ h9 => h9) hfs dX4_tell_46 ?_
      refine lv_iload_n hx hb dX4_tell_49 rfl (lv_at hl 3 rfl) ?_
      refine lv_iconst (v := 3) hx hb dX4_tell_50 (by decide) ?_
      refine lv_isub hx hb dX4_tell_51 ?_
      obtain ⟨x9, h10, h⟩ := bE h
      refine x_iald (cA := cI) hx hb hK hP 1 0 rfl rfl h10 dX4_tell_52 ?_
      obtain ⟨g11, h12, h⟩ := bE h
      refine x_iast (cA := cI) hx hb hK hP hD hS 1 0 rfl rfl h12 dX4_tell_53 (fun H locs hP hD hS => ?_)
      have hP : va_P D vwCl (wS cI o fs a g11) H := hP
      have hD : va_D A (wS cI o fs a g11) := hD
      refine lv_iinc (v := (y3 + (-1 : Int32))) (lv' := [(3, .int (y3 + (-1 : Int32))), (0, .ref o), (1, .int y1), (2, .int y2)]) hx hb dX4_tell_54 hl (k := 3) rfl rfl (by decide) rfl (fun ls hl => ?_)
      refine lv_goto (tgt := 33) hx hb dX4_tell_57 (by decide) ?_
      exact ih g11 (y3 + (-1 : Int32)) _ _ _ hP hD hS (lv_sub hl [1, 2, 3, 0] rfl) h
set_option maxHeartbeats 4000000 in
set_option maxRecDepth 100000 in
theorem c_X4_tell (l : Launch) (D : va_G) (cI cZ cT : ClassId) (sz : Nat) (o : Nat) (fs : List Value) (a : Nat) (hfs : fs[0]? = some (.ref a)) (u : Nat → Int32) (a1 : Int32) (a2 : Int32) (r : (Nat → Int32)) (h : f_X4_tell u a1 a2 = some r) : Met l yX4_tell (wq yX4_tell cX4_tell 4 none) rm_X4_tell (q_M D (q_tys cI cZ cT) sz (wS cI o fs a u) q_T [.ref o, .int a1, .int a2]) (va_Qv (fun _ => True) (q_B D (wS cI o fs a u) sz (wS cI o fs a r)) (va_A (wS cI o fs a u) sz)) 0 0 (va_A (wS cI o fs a u) sz) := by
  refine q_MI (cc := cX4_tell) (maxL := 4) (ret := none) (E := fun sz => q_T) (Qc := fun sz => (va_Qv (fun _ => True) (q_B D (wS cI o fs a u) sz (wS cI o fs a r)) (va_A (wS cI o fs a u) sz))) (free := fun sz => va_A (wS cI o fs a u) sz) (plainFor_of_name (by decide)) (Nat.le_of_ble_eq_true rfl) (fun p e s m below meth c C0 hname hP hK hD hE ls hl => ?_)
  have hA : ∀ q, s.heap.size ≤ q → (va_A (wS cI o fs a u) s.heap.size) q := fun _ => Or.inr
  have hS : va_S (va_A (wS cI o fs a u) s.heap.size) s.heap s.heap [] := va_S.rf
  have hl : lv_has ls 4 [(0, .ref o), (1, .int a1), (2, .int a2)] := hl
  obtain ⟨hx, hb, hr, hml, hown, hts, hlocks⟩ := id C0
  have hF : CallFix p m c cX4_tell 4 s _ BW RX4 := ⟨hx, hb, hml, hown, hts⟩
  rw [f_X4_tell] at h
  refine lv_aload_n hx hb dX4_tell_0 rfl (lv_at hl 0 rfl) ?_
  refine va_get (D := D) (v := .ref a) (C := RX4) (T := TX4) (N := 10) hx hb hts iw_X4 hown hK hP 0 rfl rfl 0 (by decide) (hts _ mw_414) (fun _ h9 => h9) hfs dX4_tell_1 ?_
  refine lv_sipush (v := 144) hx hb dX4_tell_4 (by decide) ?_
  refine lv_dup2_11 hx hb dX4_tell_7 rfl rfl ?_
  obtain ⟨x1, h2, h⟩ := bE h
  refine x_iald (cA := cI) hx hb hK hP 1 0 rfl rfl h2 dX4_tell_8 ?_
  refine lv_aload_n hx hb dX4_tell_9 rfl (lv_at hl 0 rfl) ?_
  refine va_get (D := D) (v := .ref a) (C := RX4) (T := TX4) (N := 10) hx hb hts iw_X4 hown hK hP 0 rfl rfl 0 (by decide) (hts _ mw_414) (fun _ h9 => h9) hfs dX4_tell_10 ?_
  refine lv_sipush (v := 144) hx hb dX4_tell_13 (by decide) ?_
  obtain ⟨x3, h4, h⟩ := bE h
  refine x_iald (cA := cI) hx hb hK hP 1 0 rfl rfl h4 dX4_tell_16 ?_
  refine lv_bipush (v := 12) hx hb dX4_tell_17 (by decide) ?_
  refine x_j (V := Int32) (nL := 4) (fun v5 => [(0, .ref o), (1, .int a1), (2, .int a2)]) 27 (fun v5 => [.int v5, .int x1, .int (144 : Int32), .ref a]) h (fun v5 h ls hl => ?_) (fun v5 h hj => ?_)
  · refine lv_iadd hx hb dX4_tell_27 ?_
    obtain ⟨g6, h7, h⟩ := bE h
    refine x_iast (cA := cI) hx hb hK hP hD hS 1 0 rfl rfl h7 dX4_tell_28 (fun H locs hP hD hS => ?_)
    have hP : va_P D vwCl (wS cI o fs a g6) H := hP
    have hD : va_D (va_A (wS cI o fs a u) s.heap.size) (wS cI o fs a g6) := hD
    refine lv_sipush (v := 180) hx hb dX4_tell_29 (by decide) ?_
    refine lv_istore_n (lv' := [(3, .int (180 : Int32)), (0, .ref o), (1, .int a1), (2, .int a2)]) hx hb dX4_tell_32 rfl hl (by decide) rfl (fun ls hl => ?_)
    obtain ⟨v13, h14, h⟩ := bE h
    refine k_X4_tell_L33 (v := v13) o fs a hfs a1 a2 hA C0 hK (fun H locs ls hP hD hS hl => ?_) 2000 g6 (180 : Int32) _ _ _ hP hD hS (lv_sub hl [1, 2, 3, 0] rfl) h14
    refine lv_aload_n hx hb dX4_tell_60 rfl (lv_at hl 0 rfl) ?_
    refine va_get (D := D) (v := .ref a) (C := RX4) (T := TX4) (N := 10) hx hb hts iw_X4 hown hK hP 0 rfl rfl 0 (by decide) (hts _ mw_414) (fun _ h9 => h9) hfs dX4_tell_61 ?_
    refine lv_sipush (v := 145) hx hb dX4_tell_64 (by decide) ?_
    refine lv_iload_n hx hb dX4_tell_67 rfl (lv_at hl 1 rfl) ?_
    obtain ⟨g15, h16, h⟩ := bE h
    refine x_iast (cA := cI) hx hb hK hP hD hS 1 0 rfl rfl h16 dX4_tell_68 (fun H locs hP hD hS => ?_)
    have hP : va_P D vwCl (wS cI o fs a g15) H := hP
    have hD : va_D (va_A (wS cI o fs a u) s.heap.size) (wS cI o fs a g15) := hD
    refine lv_aload_n hx hb dX4_tell_69 rfl (lv_at hl 0 rfl) ?_
    refine va_get (D := D) (v := .ref a) (C := RX4) (T := TX4) (N := 10) hx hb hts iw_X4 hown hK hP 0 rfl rfl 0 (by decide) (hts _ mw_414) (fun _ h9 => h9) hfs dX4_tell_70 ?_
    refine lv_sipush (v := 146) hx hb dX4_tell_73 (by decide) ?_
    refine lv_aload_n hx hb dX4_tell_76 rfl (lv_at hl 0 rfl) ?_
    refine va_get (D := D) (v := .ref a) (C := RX4) (T := TX4) (N := 10) hx hb hts iw_X4 hown hK hP 0 rfl rfl 0 (by decide) (hts _ mw_414) (fun _ h9 => h9) hfs dX4_tell_77 ?_
    refine lv_iconst (v := 4) hx hb dX4_tell_80 (by decide) ?_
    obtain ⟨x17, h18, h⟩ := bE h
    refine x_iald (cA := cI) hx hb hK hP 1 0 rfl rfl h18 dX4_tell_81 ?_
    obtain ⟨g19, h20, h⟩ := bE h
    refine x_iast (cA := cI) hx hb hK hP hD hS 1 0 rfl rfl h20 dX4_tell_82 (fun H locs hP hD hS => ?_)
    have hP : va_P D vwCl (wS cI o fs a g19) H := hP
    have hD : va_D (va_A (wS cI o fs a u) s.heap.size) (wS cI o fs a g19) := hD
    refine lv_aload_n hx hb dX4_tell_83 rfl (lv_at hl 0 rfl) ?_
    refine va_get (D := D) (v := .ref a) (C := RX4) (T := TX4) (N := 10) hx hb hts iw_X4 hown hK hP 0 rfl rfl 0 (by decide) (hts _ mw_414) (fun _ h9 => h9) hfs dX4_tell_84 ?_
    refine lv_sipush (v := 147) hx hb dX4_tell_87 (by decide) ?_
    refine lv_iload_n hx hb dX4_tell_90 rfl (lv_at hl 2 rfl) ?_
    obtain ⟨g21, h22, h⟩ := bE h
    refine x_iast (cA := cI) hx hb hK hP hD hS 1 0 rfl rfl h22 dX4_tell_91 (fun H locs hP hD hS => ?_)
    have hP : va_P D vwCl (wS cI o fs a g21) H := hP
    have hD : va_D (va_A (wS cI o fs a u) s.heap.size) (wS cI o fs a g21) := hD
    cases h
    exact x_retV C0 hP hD hS dX4_tell_92
  · refine lv_icmp_ge (tgt := 26) hx hb dX4_tell_19 (by decide) (fun c23 => ?_) (fun c23 => ?_)
    · have h := xt c23 h
      refine lv_iconst (v := 0) hx hb dX4_tell_26 (by decide) ?_
      cases h
      exact hj _ (lv_sub hl [0, 1, 2] rfl)
    · have h := xf c23 h
      refine lv_iconst (v := 1) hx hb dX4_tell_22 (by decide) ?_
      refine lv_goto (tgt := 27) hx hb dX4_tell_23 (by decide) ?_
      cases h
      exact hj _ (lv_sub hl [0, 1, 2] rfl)

/-! QuarrelWaysModel.change (III)V -/
def f_X4_change (u : Nat → Int32) (a1 : Int32) (a2 : Int32) (a3 : Int32) : Option ((Nat → Int32)) := ((f_X4_person0 u a1 a2).bind fun x1 => (if 0 ≤ (x1 + a3) then (if (x1 + a3) ≤ (9 : Int32) then ((wr u 181 (((6 : Int32) + ((4 : Int32) * a1)) + a2) (x1 + a3)).bind fun g5 => some g5) else ((wr u 181 (((6 : Int32) + ((4 : Int32) * a1)) + a2) (9 : Int32)).bind fun g7 => some g7)) else ((wr u 181 (((6 : Int32) + ((4 : Int32) * a1)) + a2) (0 : Int32)).bind fun g9 => some g9)))
abbrev rm_X4_change : Room := { frames := 1, cells := 0, slots := 0, locals := 22 }
theorem hd_X4_change : yX4_change.cls = RX4 ∧ yX4_change.cls ≠ "java/lang/invoke/MethodHandle" ∧ yX4_change.cls ≠ "java/lang/invoke/VarHandle" ∧ (parseMethodDescriptor yX4_change.desc).map (fun d => d.parameters.length) = some 3 := by decide +kernel
set_option maxHeartbeats 4000000 in
set_option maxRecDepth 100000 in
theorem c_X4_change (l : Launch) (D : va_G) (cI cZ cT : ClassId) (sz : Nat) (o : Nat) (fs : List Value) (a : Nat) (hfs : fs[0]? = some (.ref a)) (u : Nat → Int32) (a1 : Int32) (a2 : Int32) (a3 : Int32) (r : (Nat → Int32)) (h : f_X4_change u a1 a2 a3 = some r) : Met l yX4_change (wq yX4_change cX4_change 5 none) rm_X4_change (q_M D (q_tys cI cZ cT) sz (wS cI o fs a u) q_T [.ref o, .int a1, .int a2, .int a3]) (va_Qv (fun _ => True) (q_B D (wS cI o fs a u) sz (wS cI o fs a r)) (va_A (wS cI o fs a u) sz)) 0 0 (va_A (wS cI o fs a u) sz) := by
  refine q_MI (cc := cX4_change) (maxL := 5) (ret := none) (E := fun sz => q_T) (Qc := fun sz => (va_Qv (fun _ => True) (q_B D (wS cI o fs a u) sz (wS cI o fs a r)) (va_A (wS cI o fs a u) sz))) (free := fun sz => va_A (wS cI o fs a u) sz) (plainFor_of_name (by decide)) (Nat.le_of_ble_eq_true rfl) (fun p e s m below meth c C0 hname hP hK hD hE ls hl => ?_)
  have hA : ∀ q, s.heap.size ≤ q → (va_A (wS cI o fs a u) s.heap.size) q := fun _ => Or.inr
  have hS : va_S (va_A (wS cI o fs a u) s.heap.size) s.heap s.heap [] := va_S.rf
  have hl : lv_has ls 5 [(0, .ref o), (1, .int a1), (2, .int a2), (3, .int a3)] := hl
  obtain ⟨hx, hb, hr, hml, hown, hts, hlocks⟩ := id C0
  have hF : CallFix p m c cX4_change 5 s _ BW RX4 := ⟨hx, hb, hml, hown, hts⟩
  rw [f_X4_change] at h
  refine lv_aload_n hx hb dX4_change_0 rfl (lv_at hl 0 rfl) ?_
  refine lv_iload_n hx hb dX4_change_1 rfl (lv_at hl 1 rfl) ?_
  refine lv_iload_n hx hb dX4_change_2 rfl (lv_at hl 2 rfl) ?_
  obtain ⟨x1, h2, h⟩ := bE h
  refine x_RV (As := [.int a1, .int a2]) (rest := []) hF (c_X4_person0 l D cI cZ cT o fs a hfs u a1 a2 x1 h2) (cwV 2 hts (gqV mw_433 mw_434 mw_435 mw_428 mw_430) rfl rfl rfl hd_X4_person0 ⟨Nat.le_of_ble_eq_true rfl, Nat.le_of_ble_eq_true rfl⟩) hK hP q_T_bl (fun _ _ _ => trivial) [0, 1] rfl rfl rfl rfl hl.1 rfl (Nat.le_of_ble_eq_true rfl) dX4_change_3 ⟨Nat.zero_le _, Nat.zero_le _⟩ ?_
  refine lv_iload_n hx hb dX4_change_6 rfl (lv_at hl 3 rfl) ?_
  refine lv_iadd hx hb dX4_change_7 ?_
  refine lv_istore (lv' := [(4, .int (x1 + a3)), (0, .ref o), (1, .int a1), (2, .int a2), (3, .int a3)]) hx hb dX4_change_8 hl (by decide) rfl (fun ls hl => ?_)
  refine lv_aload_n hx hb dX4_change_10 rfl (lv_at hl 1 rfl) ?_
  refine va_get (D := D) (v := .ref a) (C := RX4) (T := TX4) (N := 10) hx hb hts iw_X4 hown hK hP 0 rfl rfl 0 (by decide) (hts _ mw_414) (fun _ h9 => h9) hfs dX4_change_11 ?_
  refine lv_bipush (v := 6) hx hb dX4_change_14 (by decide) ?_
  refine lv_iconst (v := 4) hx hb dX4_change_16 (by decide) ?_
  refine lv_iload_n hx hb dX4_change_17 rfl (lv_at hl 2 rfl) ?_
  refine lv_imul hx hb dX4_change_18 ?_
  refine lv_iadd hx hb dX4_change_19 ?_
  refine lv_iload_n hx hb dX4_change_20 rfl (lv_at hl 3 rfl) ?_
  refine lv_iadd hx hb dX4_change_21 ?_
  refine lv_iload hx hb dX4_change_22 (lv_at hl 0 rfl) ?_
  refine lv_if_ge (tgt := 31) hx hb dX4_change_24 (by decide) (fun c3 => ?_) (fun c3 => ?_)
  · have h := xt c3 h
    refine lv_iload hx hb dX4_change_31 (lv_at hl 0 rfl) ?_
    refine lv_bipush (v := 9) hx hb dX4_change_33 (by decide) ?_
    refine lv_icmp_le (tgt := 43) hx hb dX4_change_35 (by decide) (fun c4 => ?_) (fun c4 => ?_)
    · have h := xt c4 h
      refine lv_iload hx hb dX4_change_43 (lv_at hl 0 rfl) ?_
      obtain ⟨g5, h6, h⟩ := bE h
      refine x_iast (cA := cI) hx hb hK hP hD hS 1 0 rfl rfl h6 dX4_change_45 (fun H locs hP hD hS => ?_)
      have hP : va_P D vwCl (wS cI o fs a g5) H := hP
      have hD : va_D (va_A (wS cI o fs a u) s.heap.size) (wS cI o fs a g5) := hD
      cases h
      exact x_retV C0 hP hD hS dX4_change_46
    · have h := xf c4 h
      refine lv_bipush (v := 9) hx hb dX4_change_38 (by decide) ?_
      refine lv_goto (tgt := 45) hx hb dX4_change_40 (by decide) ?_
      obtain ⟨g7, h8, h⟩ := bE h
      refine x_iast (cA := cI) hx hb hK hP hD hS 1 0 rfl rfl h8 dX4_change_45 (fun H locs hP hD hS => ?_)
      have hP : va_P D vwCl (wS cI o fs a g7) H := hP
      have hD : va_D (va_A (wS cI o fs a u) s.heap.size) (wS cI o fs a g7) := hD
      cases h
      exact x_retV C0 hP hD hS dX4_change_46
  · have h := xf c3 h
    refine lv_iconst (v := 0) hx hb dX4_change_27 (by decide) ?_
    refine lv_goto (tgt := 45) hx hb dX4_change_28 (by decide) ?_
    obtain ⟨g9, h10, h⟩ := bE h
    refine x_iast (cA := cI) hx hb hK hP hD hS 1 0 rfl rfl h10 dX4_change_45 (fun H locs hP hD hS => ?_)
    have hP : va_P D vwCl (wS cI o fs a g9) H := hP
    have hD : va_D (va_A (wS cI o fs a u) s.heap.size) (wS cI o fs a g9) := hD
    cases h
    exact x_retV C0 hP hD hS dX4_change_46

/-! QuarrelWaysModel.oath (I)V -/
def f_X4_oath (u : Nat → Int32) (a1 : Int32) : Option ((Nat → Int32)) := ((rd u 181 (4 : Int32)).bind fun x1 => ((rd u 181 (2 : Int32)).bind fun x3 => ((f_X4_person0 u a1 (3 : Int32)).bind fun x5 => (if (x1 + x3) ≤ x5 then ((f_X4_person0 u a1 (3 : Int32)).bind fun x8 => ((wr u 181 (((6 : Int32) + ((4 : Int32) * a1)) + (3 : Int32)) x8).bind fun g10 => some g10)) else ((wr u 181 (((6 : Int32) + ((4 : Int32) * a1)) + (3 : Int32)) (x1 + x3)).bind fun g12 => some g12)))))
abbrev rm_X4_oath : Room := { frames := 1, cells := 0, slots := 0, locals := 22 }
theorem hd_X4_oath : yX4_oath.cls = RX4 ∧ yX4_oath.cls ≠ "java/lang/invoke/MethodHandle" ∧ yX4_oath.cls ≠ "java/lang/invoke/VarHandle" ∧ (parseMethodDescriptor yX4_oath.desc).map (fun d => d.parameters.length) = some 1 := by decide +kernel
set_option maxHeartbeats 4000000 in
set_option maxRecDepth 100000 in
theorem c_X4_oath (l : Launch) (D : va_G) (cI cZ cT : ClassId) (sz : Nat) (o : Nat) (fs : List Value) (a : Nat) (hfs : fs[0]? = some (.ref a)) (u : Nat → Int32) (a1 : Int32) (r : (Nat → Int32)) (h : f_X4_oath u a1 = some r) : Met l yX4_oath (wq yX4_oath cX4_oath 3 none) rm_X4_oath (q_M D (q_tys cI cZ cT) sz (wS cI o fs a u) q_T [.ref o, .int a1]) (va_Qv (fun _ => True) (q_B D (wS cI o fs a u) sz (wS cI o fs a r)) (va_A (wS cI o fs a u) sz)) 0 0 (va_A (wS cI o fs a u) sz) := by
  refine q_MI (cc := cX4_oath) (maxL := 3) (ret := none) (E := fun sz => q_T) (Qc := fun sz => (va_Qv (fun _ => True) (q_B D (wS cI o fs a u) sz (wS cI o fs a r)) (va_A (wS cI o fs a u) sz))) (free := fun sz => va_A (wS cI o fs a u) sz) (plainFor_of_name (by decide)) (Nat.le_of_ble_eq_true rfl) (fun p e s m below meth c C0 hname hP hK hD hE ls hl => ?_)
  have hA : ∀ q, s.heap.size ≤ q → (va_A (wS cI o fs a u) s.heap.size) q := fun _ => Or.inr
  have hS : va_S (va_A (wS cI o fs a u) s.heap.size) s.heap s.heap [] := va_S.rf
  have hl : lv_has ls 3 [(0, .ref o), (1, .int a1)] := hl
  obtain ⟨hx, hb, hr, hml, hown, hts, hlocks⟩ := id C0
  have hF : CallFix p m c cX4_oath 3 s _ BW RX4 := ⟨hx, hb, hml, hown, hts⟩
  rw [f_X4_oath] at h
  refine lv_aload_n hx hb dX4_oath_0 rfl (lv_at hl 0 rfl) ?_
  refine va_get (D := D) (v := .ref a) (C := RX4) (T := TX4) (N := 10) hx hb hts iw_X4 hown hK hP 0 rfl rfl 0 (by decide) (hts _ mw_414) (fun _ h9 => h9) hfs dX4_oath_1 ?_
  refine lv_iconst (v := 4) hx hb dX4_oath_4 (by decide) ?_
  obtain ⟨x1, h2, h⟩ := bE h
  refine x_iald (cA := cI) hx hb hK hP 1 0 rfl rfl h2 dX4_oath_5 ?_
  refine lv_aload_n hx hb dX4_oath_6 rfl (lv_at hl 0 rfl) ?_
  refine va_get (D := D) (v := .ref a) (C := RX4) (T := TX4) (N := 10) hx hb hts iw_X4 hown hK hP 0 rfl rfl 0 (by decide) (hts _ mw_414) (fun _ h9 => h9) hfs dX4_oath_7 ?_
  refine lv_iconst (v := 2) hx hb dX4_oath_10 (by decide) ?_
  obtain ⟨x3, h4, h⟩ := bE h
  refine x_iald (cA := cI) hx hb hK hP 1 0 rfl rfl h4 dX4_oath_11 ?_
  refine lv_iadd hx hb dX4_oath_12 ?_
  refine lv_istore_n (lv' := [(2, .int (x1 + x3)), (0, .ref o), (1, .int a1)]) hx hb dX4_oath_13 rfl hl (by decide) rfl (fun ls hl => ?_)
  refine lv_aload_n hx hb dX4_oath_14 rfl (lv_at hl 1 rfl) ?_
  refine va_get (D := D) (v := .ref a) (C := RX4) (T := TX4) (N := 10) hx hb hts iw_X4 hown hK hP 0 rfl rfl 0 (by decide) (hts _ mw_414) (fun _ h9 => h9) hfs dX4_oath_15 ?_
  refine lv_bipush (v := 6) hx hb dX4_oath_18 (by decide) ?_
  refine lv_iconst (v := 4) hx hb dX4_oath_20 (by decide) ?_
  refine lv_iload_n hx hb dX4_oath_21 rfl (lv_at hl 2 rfl) ?_
  refine lv_imul hx hb dX4_oath_22 ?_
  refine lv_iadd hx hb dX4_oath_23 ?_
  refine lv_iconst (v := 3) hx hb dX4_oath_24 (by decide) ?_
  refine lv_iadd hx hb dX4_oath_25 ?_
  refine lv_iload_n hx hb dX4_oath_26 rfl (lv_at hl 0 rfl) ?_
  refine lv_aload_n hx hb dX4_oath_27 rfl (lv_at hl 1 rfl) ?_
  refine lv_iload_n hx hb dX4_oath_28 rfl (lv_at hl 2 rfl) ?_
  refine lv_iconst (v := 3) hx hb dX4_oath_29 (by decide) ?_
  obtain ⟨x5, h6, h⟩ := bE h
  refine x_RV (As := [.int a1, .int (3 : Int32)]) (rest := [.int (x1 + x3), .int (((6 : Int32) + ((4 : Int32) * a1)) + (3 : Int32)), .ref a]) hF (c_X4_person0 l D cI cZ cT o fs a hfs u a1 (3 : Int32) x5 h6) (cwV 2 hts (gqV mw_433 mw_434 mw_435 mw_428 mw_430) rfl rfl rfl hd_X4_person0 ⟨Nat.le_of_ble_eq_true rfl, Nat.le_of_ble_eq_true rfl⟩) hK hP q_T_bl (fun _ _ _ => trivial) [0, 1] rfl rfl rfl rfl hl.1 rfl (Nat.le_of_ble_eq_true rfl) dX4_oath_30 ⟨Nat.zero_le _, Nat.zero_le _⟩ ?_
  refine lv_icmp_le (tgt := 40) hx hb dX4_oath_33 (by decide) (fun c7 => ?_) (fun c7 => ?_)
  · have h := xt c7 h
    refine lv_aload_n hx hb dX4_oath_40 rfl (lv_at hl 1 rfl) ?_
    refine lv_iload_n hx hb dX4_oath_41 rfl (lv_at hl 2 rfl) ?_
    refine lv_iconst (v := 3) hx hb dX4_oath_42 (by decide) ?_
    obtain ⟨x8, h9, h⟩ := bE h
    refine x_RV (As := [.int a1, .int (3 : Int32)]) (rest := [.int (((6 : Int32) + ((4 : Int32) * a1)) + (3 : Int32)), .ref a]) hF (c_X4_person0 l D cI cZ cT o fs a hfs u a1 (3 : Int32) x8 h9) (cwV 2 hts (gqV mw_433 mw_434 mw_435 mw_428 mw_430) rfl rfl rfl hd_X4_person0 ⟨Nat.le_of_ble_eq_true rfl, Nat.le_of_ble_eq_true rfl⟩) hK hP q_T_bl (fun _ _ _ => trivial) [0, 1] rfl rfl rfl rfl hl.1 rfl (Nat.le_of_ble_eq_true rfl) dX4_oath_43 ⟨Nat.zero_le _, Nat.zero_le _⟩ ?_
    obtain ⟨g10, h11, h⟩ := bE h
    refine x_iast (cA := cI) hx hb hK hP hD hS 1 0 rfl rfl h11 dX4_oath_46 (fun H locs hP hD hS => ?_)
    have hP : va_P D vwCl (wS cI o fs a g10) H := hP
    have hD : va_D (va_A (wS cI o fs a u) s.heap.size) (wS cI o fs a g10) := hD
    cases h
    exact x_retV C0 hP hD hS dX4_oath_47
  · have h := xf c7 h
    refine lv_iload_n hx hb dX4_oath_36 rfl (lv_at hl 0 rfl) ?_
    refine lv_goto (tgt := 46) hx hb dX4_oath_37 (by decide) ?_
    obtain ⟨g12, h13, h⟩ := bE h
    refine x_iast (cA := cI) hx hb hK hP hD hS 1 0 rfl rfl h13 dX4_oath_46 (fun H locs hP hD hS => ?_)
    have hP : va_P D vwCl (wS cI o fs a g12) H := hP
    have hD : va_D (va_A (wS cI o fs a u) s.heap.size) (wS cI o fs a g12) := hD
    cases h
    exact x_retV C0 hP hD hS dX4_oath_47

/-! QuarrelWaysModel.comes (II)I -/
def f_X4_comes (u : Nat → Int32) (a1 : Int32) (a2 : Int32) : Option (Int32 × (Nat → Int32)) := ((f_X4_in a1 (0 : Int32) (9 : Int32)).bind fun x1 => (if x1 = 0 then some ((-2 : Int32), u) else ((f_X4_in a2 (0 : Int32) (9 : Int32)).bind fun x4 => (if x4 = 0 then some ((-2 : Int32), u) else ((rd u 181 (5 : Int32)).bind fun x7 => (if x7 = (10 : Int32) then some ((-4 : Int32), u) else ((rd u 181 (5 : Int32)).bind fun x10 => ((wr u 181 ((6 : Int32) + ((4 : Int32) * x10)) a1).bind fun g12 => ((wr g12 181 (((6 : Int32) + ((4 : Int32) * x10)) + (1 : Int32)) a2).bind fun g14 => ((wr g14 181 (((6 : Int32) + ((4 : Int32) * x10)) + (2 : Int32)) (-6 : Int32)).bind fun g16 => ((wr g16 181 (((6 : Int32) + ((4 : Int32) * x10)) + (3 : Int32)) (0 : Int32)).bind fun g18 => ((rd g18 181 (5 : Int32)).bind fun x20 => ((wr g18 181 (5 : Int32) (x20 + (1 : Int32))).bind fun g22 => ((rd g22 181 (5 : Int32)).bind fun x24 => some ((x24 - (1 : Int32)), g22)))))))))))))))
abbrev rm_X4_comes : Room := { frames := 1, cells := 0, slots := 0, locals := 22 }
theorem hd_X4_comes : yX4_comes.cls = RX4 ∧ yX4_comes.cls ≠ "java/lang/invoke/MethodHandle" ∧ yX4_comes.cls ≠ "java/lang/invoke/VarHandle" ∧ (parseMethodDescriptor yX4_comes.desc).map (fun d => d.parameters.length) = some 2 := by decide +kernel
set_option maxHeartbeats 4000000 in
set_option maxRecDepth 100000 in
theorem c_X4_comes (l : Launch) (D : va_G) (cI cZ cT : ClassId) (sz : Nat) (o : Nat) (fs : List Value) (a : Nat) (hfs : fs[0]? = some (.ref a)) (u : Nat → Int32) (a1 : Int32) (a2 : Int32) (r : Int32 × (Nat → Int32)) (h : f_X4_comes u a1 a2 = some r) : Met l yX4_comes (wq yX4_comes cX4_comes 4 (some .int)) rm_X4_comes (q_M D (q_tys cI cZ cT) sz (wS cI o fs a u) q_T [.ref o, .int a1, .int a2]) (va_Qi (fun r' _ => r' = r.1) (q_B D (wS cI o fs a u) sz (wS cI o fs a r.2)) (va_A (wS cI o fs a u) sz)) 0 0 (va_A (wS cI o fs a u) sz) := by
  refine q_MI (cc := cX4_comes) (maxL := 4) (ret := (some .int)) (E := fun sz => q_T) (Qc := fun sz => (va_Qi (fun r' _ => r' = r.1) (q_B D (wS cI o fs a u) sz (wS cI o fs a r.2)) (va_A (wS cI o fs a u) sz))) (free := fun sz => va_A (wS cI o fs a u) sz) (plainFor_of_name (by decide)) (Nat.le_of_ble_eq_true rfl) (fun p e s m below meth c C0 hname hP hK hD hE ls hl => ?_)
  have hA : ∀ q, s.heap.size ≤ q → (va_A (wS cI o fs a u) s.heap.size) q := fun _ => Or.inr
  have hS : va_S (va_A (wS cI o fs a u) s.heap.size) s.heap s.heap [] := va_S.rf
  have hl : lv_has ls 4 [(0, .ref o), (1, .int a1), (2, .int a2)] := hl
  obtain ⟨hx, hb, hr, hml, hown, hts, hlocks⟩ := id C0
  have hF : CallFix p m c cX4_comes 4 s _ BW RX4 := ⟨hx, hb, hml, hown, hts⟩
  rw [f_X4_comes] at h
  refine lv_iload_n hx hb dX4_comes_0 rfl (lv_at hl 1 rfl) ?_
  refine lv_iconst (v := 0) hx hb dX4_comes_1 (by decide) ?_
  refine lv_bipush (v := 9) hx hb dX4_comes_2 (by decide) ?_
  obtain ⟨x1, h2, h⟩ := bE h
  refine x_RS (As := [.int a1, .int (0 : Int32), .int (9 : Int32)]) (rest := []) hF (c_X4_in l D cI cZ cT  a1 (0 : Int32) (9 : Int32) x1 h2) (va_cwS 3 hts (gqS mw_426 mw_427 mw_428 mw_421) rfl rfl rfl hd_X4_in.2 ⟨Nat.le_of_ble_eq_true rfl, Nat.le_of_ble_eq_true rfl⟩) hK hP q_T_bl (fun _ _ _ => trivial) [] rfl rfl hl.1 rfl (Nat.le_of_ble_eq_true rfl) dX4_comes_4 ⟨Nat.zero_le _, Nat.zero_le _⟩ ?_
  refine lv_if_eq (tgt := 20) hx hb dX4_comes_7 (by decide) (fun c3 => ?_) (fun c3 => ?_)
  · have h := xt c3 h
    refine lv_bipush (v := (-2)) hx hb dX4_comes_20 (by decide) ?_
    cases h
    exact x_retM C0 rfl hP hD hS dX4_comes_22
  · have h := xf c3 h
    refine lv_iload_n hx hb dX4_comes_10 rfl (lv_at hl 2 rfl) ?_
    refine lv_iconst (v := 0) hx hb dX4_comes_11 (by decide) ?_
    refine lv_bipush (v := 9) hx hb dX4_comes_12 (by decide) ?_
    obtain ⟨x4, h5, h⟩ := bE h
    refine x_RS (As := [.int a2, .int (0 : Int32), .int (9 : Int32)]) (rest := []) hF (c_X4_in l D cI cZ cT  a2 (0 : Int32) (9 : Int32) x4 h5) (va_cwS 3 hts (gqS mw_426 mw_427 mw_428 mw_421) rfl rfl rfl hd_X4_in.2 ⟨Nat.le_of_ble_eq_true rfl, Nat.le_of_ble_eq_true rfl⟩) hK hP q_T_bl (fun _ _ _ => trivial) [] rfl rfl hl.1 rfl (Nat.le_of_ble_eq_true rfl) dX4_comes_14 ⟨Nat.zero_le _, Nat.zero_le _⟩ ?_
    refine lv_if_ne (tgt := 23) hx hb dX4_comes_17 (by decide) (fun c6 => ?_) (fun c6 => ?_)
    · have h := xf c6 h
      refine lv_aload_n hx hb dX4_comes_23 rfl (lv_at hl 0 rfl) ?_
      refine va_get (D := D) (v := .ref a) (C := RX4) (T := TX4) (N := 10) hx hb hts iw_X4 hown hK hP 0 rfl rfl 0 (by decide) (hts _ mw_414) (fun _ h9 => h9) hfs dX4_comes_24 ?_
      refine lv_iconst (v := 5) hx hb dX4_comes_27 (by decide) ?_
      obtain ⟨x7, h8, h⟩ := bE h
      refine x_iald (cA := cI) hx hb hK hP 1 0 rfl rfl h8 dX4_comes_28 ?_
      refine lv_bipush (v := 10) hx hb dX4_comes_29 (by decide) ?_
      refine lv_icmp_ne (tgt := 37) hx hb dX4_comes_31 (by decide) (fun c9 => ?_) (fun c9 => ?_)
      · have h := xf c9 h
        refine lv_bipush (v := 6) hx hb dX4_comes_37 (by decide) ?_
        refine lv_iconst (v := 4) hx hb dX4_comes_39 (by decide) ?_
        refine lv_aload_n hx hb dX4_comes_40 rfl (lv_at hl 0 rfl) ?_
        refine va_get (D := D) (v := .ref a) (C := RX4) (T := TX4) (N := 10) hx hb hts iw_X4 hown hK hP 0 rfl rfl 0 (by decide) (hts _ mw_414) (fun _ h9 => h9) hfs dX4_comes_41 ?_
        refine lv_iconst (v := 5) hx hb dX4_comes_44 (by decide) ?_
        obtain ⟨x10, h11, h⟩ := bE h
        refine x_iald (cA := cI) hx hb hK hP 1 0 rfl rfl h11 dX4_comes_45 ?_
        refine lv_imul hx hb dX4_comes_46 ?_
        refine lv_iadd hx hb dX4_comes_47 ?_
        refine lv_istore_n (lv' := [(3, .int ((6 : Int32) + ((4 : Int32) * x10))), (0, .ref o), (1, .int a1), (2, .int a2)]) hx hb dX4_comes_48 rfl hl (by decide) rfl (fun ls hl => ?_)
        refine lv_aload_n hx hb dX4_comes_49 rfl (lv_at hl 1 rfl) ?_
        refine va_get (D := D) (v := .ref a) (C := RX4) (T := TX4) (N := 10) hx hb hts iw_X4 hown hK hP 0 rfl rfl 0 (by decide) (hts _ mw_414) (fun _ h9 => h9) hfs dX4_comes_50 ?_
        refine lv_iload_n hx hb dX4_comes_53 rfl (lv_at hl 0 rfl) ?_
        refine lv_iload_n hx hb dX4_comes_54 rfl (lv_at hl 2 rfl) ?_
        obtain ⟨g12, h13, h⟩ := bE h
        refine x_iast (cA := cI) hx hb hK hP hD hS 1 0 rfl rfl h13 dX4_comes_55 (fun H locs hP hD hS => ?_)
        have hP : va_P D vwCl (wS cI o fs a g12) H := hP
        have hD : va_D (va_A (wS cI o fs a u) s.heap.size) (wS cI o fs a g12) := hD
        refine lv_aload_n hx hb dX4_comes_56 rfl (lv_at hl 1 rfl) ?_
        refine va_get (D := D) (v := .ref a) (C := RX4) (T := TX4) (N := 10) hx hb hts iw_X4 hown hK hP 0 rfl rfl 0 (by decide) (hts _ mw_414) (fun _ h9 => h9) hfs dX4_comes_57 ?_
        refine lv_iload_n hx hb dX4_comes_60 rfl (lv_at hl 0 rfl) ?_
        refine lv_iconst (v := 1) hx hb dX4_comes_61 (by decide) ?_
        refine lv_iadd hx hb dX4_comes_62 ?_
        refine lv_iload_n hx hb dX4_comes_63 rfl (lv_at hl 3 rfl) ?_
        obtain ⟨g14, h15, h⟩ := bE h
        refine x_iast (cA := cI) hx hb hK hP hD hS 1 0 rfl rfl h15 dX4_comes_64 (fun H locs hP hD hS => ?_)
        have hP : va_P D vwCl (wS cI o fs a g14) H := hP
        have hD : va_D (va_A (wS cI o fs a u) s.heap.size) (wS cI o fs a g14) := hD
        refine lv_aload_n hx hb dX4_comes_65 rfl (lv_at hl 1 rfl) ?_
        refine va_get (D := D) (v := .ref a) (C := RX4) (T := TX4) (N := 10) hx hb hts iw_X4 hown hK hP 0 rfl rfl 0 (by decide) (hts _ mw_414) (fun _ h9 => h9) hfs dX4_comes_66 ?_
        refine lv_iload_n hx hb dX4_comes_69 rfl (lv_at hl 0 rfl) ?_
        refine lv_iconst (v := 2) hx hb dX4_comes_70 (by decide) ?_
        refine lv_iadd hx hb dX4_comes_71 ?_
        refine lv_bipush (v := (-6)) hx hb dX4_comes_72 (by decide) ?_
        obtain ⟨g16, h17, h⟩ := bE h
        refine x_iast (cA := cI) hx hb hK hP hD hS 1 0 rfl rfl h17 dX4_comes_74 (fun H locs hP hD hS => ?_)
        have hP : va_P D vwCl (wS cI o fs a g16) H := hP
        have hD : va_D (va_A (wS cI o fs a u) s.heap.size) (wS cI o fs a g16) := hD
        refine lv_aload_n hx hb dX4_comes_75 rfl (lv_at hl 1 rfl) ?_
        refine va_get (D := D) (v := .ref a) (C := RX4) (T := TX4) (N := 10) hx hb hts iw_X4 hown hK hP 0 rfl rfl 0 (by decide) (hts _ mw_414) (fun _ h9 => h9) hfs dX4_comes_76 ?_
        refine lv_iload_n hx hb dX4_comes_79 rfl (lv_at hl 0 rfl) ?_
        refine lv_iconst (v := 3) hx hb dX4_comes_80 (by decide) ?_
        refine lv_iadd hx hb dX4_comes_81 ?_
        refine lv_iconst (v := 0) hx hb dX4_comes_82 (by decide) ?_
        obtain ⟨g18, h19, h⟩ := bE h
        refine x_iast (cA := cI) hx hb hK hP hD hS 1 0 rfl rfl h19 dX4_comes_83 (fun H locs hP hD hS => ?_)
        have hP : va_P D vwCl (wS cI o fs a g18) H := hP
        have hD : va_D (va_A (wS cI o fs a u) s.heap.size) (wS cI o fs a g18) := hD
        refine lv_aload_n hx hb dX4_comes_84 rfl (lv_at hl 1 rfl) ?_
        refine va_get (D := D) (v := .ref a) (C := RX4) (T := TX4) (N := 10) hx hb hts iw_X4 hown hK hP 0 rfl rfl 0 (by decide) (hts _ mw_414) (fun _ h9 => h9) hfs dX4_comes_85 ?_
        refine lv_iconst (v := 5) hx hb dX4_comes_88 (by decide) ?_
        refine lv_dup2_11 hx hb dX4_comes_89 rfl rfl ?_
        obtain ⟨x20, h21, h⟩ := bE h
        refine x_iald (cA := cI) hx hb hK hP 1 0 rfl rfl h21 dX4_comes_90 ?_
        refine lv_iconst (v := 1) hx hb dX4_comes_91 (by decide) ?_
        refine lv_iadd hx hb dX4_comes_92 ?_
        obtain ⟨g22, h23, h⟩ := bE h
        refine x_iast (cA := cI) hx hb hK hP hD hS 1 0 rfl rfl h23 dX4_comes_93 (fun H locs hP hD hS => ?_)
        have hP : va_P D vwCl (wS cI o fs a g22) H := hP
        have hD : va_D (va_A (wS cI o fs a u) s.heap.size) (wS cI o fs a g22) := hD
        refine lv_aload_n hx hb dX4_comes_94 rfl (lv_at hl 1 rfl) ?_
        refine va_get (D := D) (v := .ref a) (C := RX4) (T := TX4) (N := 10) hx hb hts iw_X4 hown hK hP 0 rfl rfl 0 (by decide) (hts _ mw_414) (fun _ h9 => h9) hfs dX4_comes_95 ?_
        refine lv_iconst (v := 5) hx hb dX4_comes_98 (by decide) ?_
        obtain ⟨x24, h25, h⟩ := bE h
        refine x_iald (cA := cI) hx hb hK hP 1 0 rfl rfl h25 dX4_comes_99 ?_
        refine lv_iconst (v := 1) hx hb dX4_comes_100 (by decide) ?_
        refine lv_isub hx hb dX4_comes_101 ?_
        cases h
        exact x_retM C0 rfl hP hD hS dX4_comes_102
      · have h := xt c9 h
        refine lv_bipush (v := (-4)) hx hb dX4_comes_34 (by decide) ?_
        cases h
        exact x_retM C0 rfl hP hD hS dX4_comes_36
    · have h := xt c6 h
      refine lv_bipush (v := (-2)) hx hb dX4_comes_20 (by decide) ?_
      cases h
      exact x_retM C0 rfl hP hD hS dX4_comes_22

/-! QuarrelWaysModel.takes (II)I -/
def f_X4_takes (u : Nat → Int32) (a1 : Int32) (a2 : Int32) : Option (Int32 × (Nat → Int32)) := ((f_X4_isPerson u a1).bind fun x1 => (if x1 = 0 then some ((-1 : Int32), u) else ((f_X4_isPerson u a2).bind fun x4 => (if x4 = 0 then some ((-1 : Int32), u) else (if a1 = a2 then some ((-2 : Int32), u) else ((f_X4_person0 u a1 (2 : Int32)).bind fun x8 => ((wr u 181 (((6 : Int32) + ((4 : Int32) * a1)) + (2 : Int32)) a2).bind fun g10 => some (x8, g10))))))))
abbrev rm_X4_takes : Room := { frames := 2, cells := 0, slots := 0, locals := 43 }
theorem hd_X4_takes : yX4_takes.cls = RX4 ∧ yX4_takes.cls ≠ "java/lang/invoke/MethodHandle" ∧ yX4_takes.cls ≠ "java/lang/invoke/VarHandle" ∧ (parseMethodDescriptor yX4_takes.desc).map (fun d => d.parameters.length) = some 2 := by decide +kernel
set_option maxHeartbeats 4000000 in
set_option maxRecDepth 100000 in
theorem c_X4_takes (l : Launch) (D : va_G) (cI cZ cT : ClassId) (sz : Nat) (o : Nat) (fs : List Value) (a : Nat) (hfs : fs[0]? = some (.ref a)) (u : Nat → Int32) (a1 : Int32) (a2 : Int32) (r : Int32 × (Nat → Int32)) (h : f_X4_takes u a1 a2 = some r) : Met l yX4_takes (wq yX4_takes cX4_takes 4 (some .int)) rm_X4_takes (q_M D (q_tys cI cZ cT) sz (wS cI o fs a u) q_T [.ref o, .int a1, .int a2]) (va_Qi (fun r' _ => r' = r.1) (q_B D (wS cI o fs a u) sz (wS cI o fs a r.2)) (va_A (wS cI o fs a u) sz)) 0 0 (va_A (wS cI o fs a u) sz) := by
  refine q_MI (cc := cX4_takes) (maxL := 4) (ret := (some .int)) (E := fun sz => q_T) (Qc := fun sz => (va_Qi (fun r' _ => r' = r.1) (q_B D (wS cI o fs a u) sz (wS cI o fs a r.2)) (va_A (wS cI o fs a u) sz))) (free := fun sz => va_A (wS cI o fs a u) sz) (plainFor_of_name (by decide)) (Nat.le_of_ble_eq_true rfl) (fun p e s m below meth c C0 hname hP hK hD hE ls hl => ?_)
  have hA : ∀ q, s.heap.size ≤ q → (va_A (wS cI o fs a u) s.heap.size) q := fun _ => Or.inr
  have hS : va_S (va_A (wS cI o fs a u) s.heap.size) s.heap s.heap [] := va_S.rf
  have hl : lv_has ls 4 [(0, .ref o), (1, .int a1), (2, .int a2)] := hl
  obtain ⟨hx, hb, hr, hml, hown, hts, hlocks⟩ := id C0
  have hF : CallFix p m c cX4_takes 4 s _ BW RX4 := ⟨hx, hb, hml, hown, hts⟩
  rw [f_X4_takes] at h
  refine lv_aload_n hx hb dX4_takes_0 rfl (lv_at hl 0 rfl) ?_
  refine lv_iload_n hx hb dX4_takes_1 rfl (lv_at hl 1 rfl) ?_
  obtain ⟨x1, h2, h⟩ := bE h
  refine x_RV (As := [.int a1]) (rest := []) hF (c_X4_isPerson l D cI cZ cT o fs a hfs u a1 x1 h2) (cwV 1 hts (gqV mw_483 mw_484 mw_485 mw_428 mw_425) rfl rfl rfl hd_X4_isPerson ⟨Nat.le_of_ble_eq_true rfl, Nat.le_of_ble_eq_true rfl⟩) hK hP q_T_bl (fun _ _ _ => trivial) [0, 1] rfl rfl rfl rfl hl.1 rfl (Nat.le_of_ble_eq_true rfl) dX4_takes_2 ⟨Nat.zero_le _, Nat.zero_le _⟩ ?_
  refine lv_if_eq (tgt := 16) hx hb dX4_takes_5 (by decide) (fun c3 => ?_) (fun c3 => ?_)
  · have h := xt c3 h
    refine lv_iconst (v := (-1)) hx hb dX4_takes_16 (by decide) ?_
    cases h
    exact x_retM C0 rfl hP hD hS dX4_takes_17
  · have h := xf c3 h
    refine lv_aload_n hx hb dX4_takes_8 rfl (lv_at hl 0 rfl) ?_
    refine lv_iload_n hx hb dX4_takes_9 rfl (lv_at hl 2 rfl) ?_
    obtain ⟨x4, h5, h⟩ := bE h
    refine x_RV (As := [.int a2]) (rest := []) hF (c_X4_isPerson l D cI cZ cT o fs a hfs u a2 x4 h5) (cwV 1 hts (gqV mw_483 mw_484 mw_485 mw_428 mw_425) rfl rfl rfl hd_X4_isPerson ⟨Nat.le_of_ble_eq_true rfl, Nat.le_of_ble_eq_true rfl⟩) hK hP q_T_bl (fun _ _ _ => trivial) [0, 1] rfl rfl rfl rfl hl.1 rfl (Nat.le_of_ble_eq_true rfl) dX4_takes_10 ⟨Nat.zero_le _, Nat.zero_le _⟩ ?_
    refine lv_if_ne (tgt := 18) hx hb dX4_takes_13 (by decide) (fun c6 => ?_) (fun c6 => ?_)
    · have h := xf c6 h
      refine lv_iload_n hx hb dX4_takes_18 rfl (lv_at hl 1 rfl) ?_
      refine lv_iload_n hx hb dX4_takes_19 rfl (lv_at hl 2 rfl) ?_
      refine lv_icmp_ne (tgt := 26) hx hb dX4_takes_20 (by decide) (fun c7 => ?_) (fun c7 => ?_)
      · have h := xf c7 h
        refine lv_aload_n hx hb dX4_takes_26 rfl (lv_at hl 0 rfl) ?_
        refine lv_iload_n hx hb dX4_takes_27 rfl (lv_at hl 1 rfl) ?_
        refine lv_iconst (v := 2) hx hb dX4_takes_28 (by decide) ?_
        obtain ⟨x8, h9, h⟩ := bE h
        refine x_RV (As := [.int a1, .int (2 : Int32)]) (rest := []) hF (c_X4_person0 l D cI cZ cT o fs a hfs u a1 (2 : Int32) x8 h9) (cwV 2 hts (gqV mw_433 mw_434 mw_435 mw_428 mw_430) rfl rfl rfl hd_X4_person0 ⟨Nat.le_of_ble_eq_true rfl, Nat.le_of_ble_eq_true rfl⟩) hK hP q_T_bl (fun _ _ _ => trivial) [0, 1] rfl rfl rfl rfl hl.1 rfl (Nat.le_of_ble_eq_true rfl) dX4_takes_29 ⟨Nat.zero_le _, Nat.zero_le _⟩ ?_
        refine lv_istore_n (lv' := [(3, .int x8), (0, .ref o), (1, .int a1), (2, .int a2)]) hx hb dX4_takes_32 rfl hl (by decide) rfl (fun ls hl => ?_)
        refine lv_aload_n hx hb dX4_takes_33 rfl (lv_at hl 1 rfl) ?_
        refine va_get (D := D) (v := .ref a) (C := RX4) (T := TX4) (N := 10) hx hb hts iw_X4 hown hK hP 0 rfl rfl 0 (by decide) (hts _ mw_414) (fun _ h9 => h9) hfs dX4_takes_34 ?_
        refine lv_bipush (v := 6) hx hb dX4_takes_37 (by decide) ?_
        refine lv_iconst (v := 4) hx hb dX4_takes_39 (by decide) ?_
        refine lv_iload_n hx hb dX4_takes_40 rfl (lv_at hl 2 rfl) ?_
        refine lv_imul hx hb dX4_takes_41 ?_
        refine lv_iadd hx hb dX4_takes_42 ?_
        refine lv_iconst (v := 2) hx hb dX4_takes_43 (by decide) ?_
        refine lv_iadd hx hb dX4_takes_44 ?_
        refine lv_iload_n hx hb dX4_takes_45 rfl (lv_at hl 3 rfl) ?_
        obtain ⟨g10, h11, h⟩ := bE h
        refine x_iast (cA := cI) hx hb hK hP hD hS 1 0 rfl rfl h11 dX4_takes_46 (fun H locs hP hD hS => ?_)
        have hP : va_P D vwCl (wS cI o fs a g10) H := hP
        have hD : va_D (va_A (wS cI o fs a u) s.heap.size) (wS cI o fs a g10) := hD
        refine lv_iload_n hx hb dX4_takes_47 rfl (lv_at hl 0 rfl) ?_
        cases h
        exact x_retM C0 rfl hP hD hS dX4_takes_48
      · have h := xt c7 h
        refine lv_bipush (v := (-2)) hx hb dX4_takes_23 (by decide) ?_
        cases h
        exact x_retM C0 rfl hP hD hS dX4_takes_25
    · have h := xt c6 h
      refine lv_iconst (v := (-1)) hx hb dX4_takes_16 (by decide) ?_
      cases h
      exact x_retM C0 rfl hP hD hS dX4_takes_17

/-! QuarrelWaysModel.turns (I)I -/
def f_X4_turns (u : Nat → Int32) (a1 : Int32) : Option (Int32 × (Nat → Int32)) := ((f_X4_in a1 (0 : Int32) (4 : Int32)).bind fun x1 => (if x1 = 0 then some ((-1 : Int32), u) else ((rd u 181 (46 : Int32)).bind fun x4 => ((wr u 181 (46 : Int32) (x4 ^^^ ((1 : Int32) <<< (a1 &&& 31)))).bind fun g6 => ((rd g6 181 (46 : Int32)).bind fun x8 => some (x8, g6))))))
abbrev rm_X4_turns : Room := { frames := 1, cells := 0, slots := 0, locals := 22 }
theorem hd_X4_turns : yX4_turns.cls = RX4 ∧ yX4_turns.cls ≠ "java/lang/invoke/MethodHandle" ∧ yX4_turns.cls ≠ "java/lang/invoke/VarHandle" ∧ (parseMethodDescriptor yX4_turns.desc).map (fun d => d.parameters.length) = some 1 := by decide +kernel
set_option maxHeartbeats 4000000 in
set_option maxRecDepth 100000 in
theorem c_X4_turns (l : Launch) (D : va_G) (cI cZ cT : ClassId) (sz : Nat) (o : Nat) (fs : List Value) (a : Nat) (hfs : fs[0]? = some (.ref a)) (u : Nat → Int32) (a1 : Int32) (r : Int32 × (Nat → Int32)) (h : f_X4_turns u a1 = some r) : Met l yX4_turns (wq yX4_turns cX4_turns 2 (some .int)) rm_X4_turns (q_M D (q_tys cI cZ cT) sz (wS cI o fs a u) q_T [.ref o, .int a1]) (va_Qi (fun r' _ => r' = r.1) (q_B D (wS cI o fs a u) sz (wS cI o fs a r.2)) (va_A (wS cI o fs a u) sz)) 0 0 (va_A (wS cI o fs a u) sz) := by
  refine q_MI (cc := cX4_turns) (maxL := 2) (ret := (some .int)) (E := fun sz => q_T) (Qc := fun sz => (va_Qi (fun r' _ => r' = r.1) (q_B D (wS cI o fs a u) sz (wS cI o fs a r.2)) (va_A (wS cI o fs a u) sz))) (free := fun sz => va_A (wS cI o fs a u) sz) (plainFor_of_name (by decide)) (Nat.le_of_ble_eq_true rfl) (fun p e s m below meth c C0 hname hP hK hD hE ls hl => ?_)
  have hA : ∀ q, s.heap.size ≤ q → (va_A (wS cI o fs a u) s.heap.size) q := fun _ => Or.inr
  have hS : va_S (va_A (wS cI o fs a u) s.heap.size) s.heap s.heap [] := va_S.rf
  have hl : lv_has ls 2 [(0, .ref o), (1, .int a1)] := hl
  obtain ⟨hx, hb, hr, hml, hown, hts, hlocks⟩ := id C0
  have hF : CallFix p m c cX4_turns 2 s _ BW RX4 := ⟨hx, hb, hml, hown, hts⟩
  rw [f_X4_turns] at h
  refine lv_iload_n hx hb dX4_turns_0 rfl (lv_at hl 1 rfl) ?_
  refine lv_iconst (v := 0) hx hb dX4_turns_1 (by decide) ?_
  refine lv_iconst (v := 4) hx hb dX4_turns_2 (by decide) ?_
  obtain ⟨x1, h2, h⟩ := bE h
  refine x_RS (As := [.int a1, .int (0 : Int32), .int (4 : Int32)]) (rest := []) hF (c_X4_in l D cI cZ cT  a1 (0 : Int32) (4 : Int32) x1 h2) (va_cwS 3 hts (gqS mw_426 mw_427 mw_428 mw_421) rfl rfl rfl hd_X4_in.2 ⟨Nat.le_of_ble_eq_true rfl, Nat.le_of_ble_eq_true rfl⟩) hK hP q_T_bl (fun _ _ _ => trivial) [] rfl rfl hl.1 rfl (Nat.le_of_ble_eq_true rfl) dX4_turns_3 ⟨Nat.zero_le _, Nat.zero_le _⟩ ?_
  refine lv_if_ne (tgt := 11) hx hb dX4_turns_6 (by decide) (fun c3 => ?_) (fun c3 => ?_)
  · have h := xf c3 h
    refine lv_aload_n hx hb dX4_turns_11 rfl (lv_at hl 0 rfl) ?_
    refine va_get (D := D) (v := .ref a) (C := RX4) (T := TX4) (N := 10) hx hb hts iw_X4 hown hK hP 0 rfl rfl 0 (by decide) (hts _ mw_414) (fun _ h9 => h9) hfs dX4_turns_12 ?_
    refine lv_bipush (v := 46) hx hb dX4_turns_15 (by decide) ?_
    refine lv_dup2_11 hx hb dX4_turns_17 rfl rfl ?_
    obtain ⟨x4, h5, h⟩ := bE h
    refine x_iald (cA := cI) hx hb hK hP 1 0 rfl rfl h5 dX4_turns_18 ?_
    refine lv_iconst (v := 1) hx hb dX4_turns_19 (by decide) ?_
    refine lv_iload_n hx hb dX4_turns_20 rfl (lv_at hl 1 rfl) ?_
    refine lv_ishl hx hb dX4_turns_21 ?_
    refine lv_ixor hx hb dX4_turns_22 ?_
    obtain ⟨g6, h7, h⟩ := bE h
    refine x_iast (cA := cI) hx hb hK hP hD hS 1 0 rfl rfl h7 dX4_turns_23 (fun H locs hP hD hS => ?_)
    have hP : va_P D vwCl (wS cI o fs a g6) H := hP
    have hD : va_D (va_A (wS cI o fs a u) s.heap.size) (wS cI o fs a g6) := hD
    refine lv_aload_n hx hb dX4_turns_24 rfl (lv_at hl 0 rfl) ?_
    refine va_get (D := D) (v := .ref a) (C := RX4) (T := TX4) (N := 10) hx hb hts iw_X4 hown hK hP 0 rfl rfl 0 (by decide) (hts _ mw_414) (fun _ h9 => h9) hfs dX4_turns_25 ?_
    refine lv_bipush (v := 46) hx hb dX4_turns_28 (by decide) ?_
    obtain ⟨x8, h9, h⟩ := bE h
    refine x_iald (cA := cI) hx hb hK hP 1 0 rfl rfl h9 dX4_turns_30 ?_
    cases h
    exact x_retM C0 rfl hP hD hS dX4_turns_31
  · have h := xt c3 h
    refine lv_iconst (v := (-1)) hx hb dX4_turns_9 (by decide) ?_
    cases h
    exact x_retM C0 rfl hP hD hS dX4_turns_10

/-! QuarrelWaysModel.offends (III)I -/
def f_X4_offends_L39 (z0 : Nat → Int32) (y1 : Int32) (y2 : Int32) (y3 : Int32) : Nat → Int32 → Option (Int32 × (Nat → Int32))
  | 0, _ => none
  | n + 1, y4 => ((rd z0 181 (47 : Int32)).bind fun x11 => (if x11 ≤ y4 then ((rd z0 181 (47 : Int32)).bind fun x14 => (if x14 = (12 : Int32) then some ((-4 : Int32), z0) else ((rd z0 181 (47 : Int32)).bind fun x17 => ((wr z0 181 ((48 : Int32) + ((8 : Int32) * x17)) y1).bind fun g19 => ((wr g19 181 (((48 : Int32) + ((8 : Int32) * x17)) + (1 : Int32)) y2).bind fun g21 => ((wr g21 181 (((48 : Int32) + ((8 : Int32) * x17)) + (2 : Int32)) y3).bind fun g23 => ((rd g23 181 (4 : Int32)).bind fun x25 => ((wr g23 181 (((48 : Int32) + ((8 : Int32) * x17)) + (3 : Int32)) x25).bind fun g27 => ((wr g27 181 (((48 : Int32) + ((8 : Int32) * x17)) + (4 : Int32)) (0 : Int32)).bind fun g29 => ((wr g29 181 (((48 : Int32) + ((8 : Int32) * x17)) + (5 : Int32)) (-6 : Int32)).bind fun g31 => ((wr g31 181 (((48 : Int32) + ((8 : Int32) * x17)) + (6 : Int32)) (-6 : Int32)).bind fun g33 => ((wr g33 181 (((48 : Int32) + ((8 : Int32) * x17)) + (7 : Int32)) (0 : Int32)).bind fun g35 => ((rd g35 181 (47 : Int32)).bind fun x37 => ((wr g35 181 (47 : Int32) (x37 + (1 : Int32))).bind fun g39 => ((rd g39 181 (47 : Int32)).bind fun x41 => ((f_X4_tell g39 (0 : Int32) (x41 - (1 : Int32))).bind fun x43 => ((rd x43 181 (47 : Int32)).bind fun x45 => some ((x45 - (1 : Int32)), x43)))))))))))))))))) else ((f_X4_areOfThese z0 y4 y1 y2).bind fun x47 => (if x47 = 0 then f_X4_offends_L39 z0 y1 y2 y3 n (y4 + (1 : Int32)) else ((f_X4_quarrel0 z0 y4 (4 : Int32)).bind fun x50 => (if x50 = 0 then some ((-5 : Int32), z0) else f_X4_offends_L39 z0 y1 y2 y3 n (y4 + (1 : Int32))))))))
def f_X4_offends (u : Nat → Int32) (a1 : Int32) (a2 : Int32) (a3 : Int32) : Option (Int32 × (Nat → Int32)) := ((f_X4_isPerson u a1).bind fun x1 => (if x1 = 0 then some ((-1 : Int32), u) else ((f_X4_isPerson u a2).bind fun x4 => (if x4 = 0 then some ((-1 : Int32), u) else (if a1 = a2 then some ((-2 : Int32), u) else ((f_X4_in a3 (1 : Int32) (9 : Int32)).bind fun x8 => (if x8 = 0 then some ((-2 : Int32), u) else f_X4_offends_L39 u a1 a2 a3 2000 (0 : Int32))))))))
abbrev rm_X4_offends : Room := { frames := 2, cells := 0, slots := 0, locals := 47 }
theorem hd_X4_offends : yX4_offends.cls = RX4 ∧ yX4_offends.cls ≠ "java/lang/invoke/MethodHandle" ∧ yX4_offends.cls ≠ "java/lang/invoke/VarHandle" ∧ (parseMethodDescriptor yX4_offends.desc).map (fun d => d.parameters.length) = some 3 := by decide +kernel
set_option maxHeartbeats 4000000 in
set_option maxRecDepth 100000 in
theorem k_X4_offends_L39 {r : Int32 × (Nat → Int32)} (o : Nat) (fs : List Value) (a : Nat) (hfs : fs[0]? = some (.ref a)) (z0 : Nat → Int32) (y1 : Int32) (y2 : Int32) (y3 : Int32) (u : Nat → Int32) (hA : ∀ q, s.heap.size ≤ q → (va_A (wS cI o fs a u) s.heap.size) q) {H : Heap} {locs : List Loc} (hP : va_P D vwCl (wS cI o fs a z0) H) (hD : va_D (va_A (wS cI o fs a u) s.heap.size) (wS cI o fs a z0)) (hS : va_S (va_A (wS cI o fs a u) s.heap.size) s.heap H locs) (C0 : q_At p s m args meth c cX4_offends 5 (some .int) RX4) (hK : va_K D vwCl (q_tys cI cZ cT) s) : ∀ (n : Nat) (y4 : Int32) (ls : Array Slot), lv_has ls 5 [(0, .ref o), (1, .int y1), (2, .int y2), (3, .int y3), (4, .int y4)] → f_X4_offends_L39 z0 y1 y2 y3 n y4 = some r → W p l e rm_X4_offends s m args below meth c H locs 0 0 (q_QM D below args s (wS cI o fs a u) (wS cI o fs a r.2) r.1) (F0 m 39 ls []) := by
  obtain ⟨hx, hb, hr, hml, hown, hts, hlocks⟩ := id C0
  have hF : CallFix p m c cX4_offends 5 s args BW RX4 := ⟨hx, hb, hml, hown, hts⟩
  intro n
  induction n with
  | zero =>
    intro y4 ls hl h
    rw [f_X4_offends_L39] at h
    cases h
  | succ n ih =>
    intro y4 ls hl h
    rw [f_X4_offends_L39] at h
    refine lv_iload hx hb dX4_offends_39 (lv_at hl 4 rfl) ?_
    refine lv_aload_n hx hb dX4_offends_41 rfl (lv_at hl 0 rfl) ?_
    refine va_get (D := D) (v := .ref a) (C := RX4) (T := TX4) (N := 10) hx hb hts iw_X4 hown hK hP 0 rfl rfl 0 (by decide) (hts _ mw_414) (fun _ h9 => h9) hfs dX4_offends_42 ?_
    refine lv_bipush (v := 47) hx hb dX4_offends_45 (by decide) ?_
    obtain ⟨x11, h12, h⟩ := bE h
    refine x_iald (cA := cI) hx hb hK hP 1 0 rfl rfl h12 dX4_offends_47 ?_
    refine lv_icmp_ge (tgt := 81) hx hb dX4_offends_48 (by decide) (fun c13 => ?_) (fun c13 => ?_)
    · have h := xt c13 h
      refine lv_aload_n hx hb dX4_offends_81 rfl (lv_at hl 0 rfl) ?_
      refine va_get (D := D) (v := .ref a) (C := RX4) (T := TX4) (N := 10) hx hb hts iw_X4 hown hK hP 0 rfl rfl 0 (by decide) (hts _ mw_414) (fun _ h9 => h9) hfs dX4_offends_82 ?_
      refine lv_bipush (v := 47) hx hb dX4_offends_85 (by decide) ?_
      obtain ⟨x14, h15, h⟩ := bE h
      refine x_iald (cA := cI) hx hb hK hP 1 0 rfl rfl h15 dX4_offends_87 ?_
      refine lv_bipush (v := 12) hx hb dX4_offends_88 (by decide) ?_
      refine lv_icmp_ne (tgt := 96) hx hb dX4_offends_90 (by decide) (fun c16 => ?_) (fun c16 => ?_)
      · have h := xf c16 h
        refine lv_bipush (v := 48) hx hb dX4_offends_96 (by decide) ?_
        refine lv_bipush (v := 8) hx hb dX4_offends_98 (by decide) ?_
        refine lv_aload_n hx hb dX4_offends_100 rfl (lv_at hl 0 rfl) ?_
        refine va_get (D := D) (v := .ref a) (C := RX4) (T := TX4) (N := 10) hx hb hts iw_X4 hown hK hP 0 rfl rfl 0 (by decide) (hts _ mw_414) (fun _ h9 => h9) hfs dX4_offends_101 ?_
        refine lv_bipush (v := 47) hx hb dX4_offends_104 (by decide) ?_
        obtain ⟨x17, h18, h⟩ := bE h
        refine x_iald (cA := cI) hx hb hK hP 1 0 rfl rfl h18 dX4_offends_106 ?_
        refine lv_imul hx hb dX4_offends_107 ?_
        refine lv_iadd hx hb dX4_offends_108 ?_
        refine lv_istore (lv' := [(4, .int ((48 : Int32) + ((8 : Int32) * x17))), (0, .ref o), (1, .int y1), (2, .int y2), (3, .int y3)]) hx hb dX4_offends_109 hl (by decide) rfl (fun ls hl => ?_)
        refine lv_aload_n hx hb dX4_offends_111 rfl (lv_at hl 1 rfl) ?_
        refine va_get (D := D) (v := .ref a) (C := RX4) (T := TX4) (N := 10) hx hb hts iw_X4 hown hK hP 0 rfl rfl 0 (by decide) (hts _ mw_414) (fun _ h9 => h9) hfs dX4_offends_112 ?_
        refine lv_iload hx hb dX4_offends_115 (lv_at hl 0 rfl) ?_
        refine lv_iload_n hx hb dX4_offends_117 rfl (lv_at hl 2 rfl) ?_
        obtain ⟨g19, h20, h⟩ := bE h
        refine x_iast (cA := cI) hx hb hK hP hD hS 1 0 rfl rfl h20 dX4_offends_118 (fun H locs hP hD hS => ?_)
        have hP : va_P D vwCl (wS cI o fs a g19) H := hP
        have hD : va_D (va_A (wS cI o fs a u) s.heap.size) (wS cI o fs a g19) := hD
        refine lv_aload_n hx hb dX4_offends_119 rfl (lv_at hl 1 rfl) ?_
        refine va_get (D := D) (v := .ref a) (C := RX4) (T := TX4) (N := 10) hx hb hts iw_X4 hown hK hP 0 rfl rfl 0 (by decide) (hts _ mw_414) (fun _ h9 => h9) hfs dX4_offends_120 ?_
        refine lv_iload hx hb dX4_offends_123 (lv_at hl 0 rfl) ?_
        refine lv_iconst (v := 1) hx hb dX4_offends_125 (by decide) ?_
        refine lv_iadd hx hb dX4_offends_126 ?_
        refine lv_iload_n hx hb dX4_offends_127 rfl (lv_at hl 3 rfl) ?_
        obtain ⟨g21, h22, h⟩ := bE h
        refine x_iast (cA := cI) hx hb hK hP hD hS 1 0 rfl rfl h22 dX4_offends_128 (fun H locs hP hD hS => ?_)
        have hP : va_P D vwCl (wS cI o fs a g21) H := hP
        have hD : va_D (va_A (wS cI o fs a u) s.heap.size) (wS cI o fs a g21) := hD
        refine lv_aload_n hx hb dX4_offends_129 rfl (lv_at hl 1 rfl) ?_
        refine va_get (D := D) (v := .ref a) (C := RX4) (T := TX4) (N := 10) hx hb hts iw_X4 hown hK hP 0 rfl rfl 0 (by decide) (hts _ mw_414) (fun _ h9 => h9) hfs dX4_offends_130 ?_
        refine lv_iload hx hb dX4_offends_133 (lv_at hl 0 rfl) ?_
        refine lv_iconst (v := 2) hx hb dX4_offends_135 (by decide) ?_
        refine lv_iadd hx hb dX4_offends_136 ?_
        refine lv_iload_n hx hb dX4_offends_137 rfl (lv_at hl 4 rfl) ?_
        obtain ⟨g23, h24, h⟩ := bE h
        refine x_iast (cA := cI) hx hb hK hP hD hS 1 0 rfl rfl h24 dX4_offends_138 (fun H locs hP hD hS => ?_)
        have hP : va_P D vwCl (wS cI o fs a g23) H := hP
        have hD : va_D (va_A (wS cI o fs a u) s.heap.size) (wS cI o fs a g23) := hD
        refine lv_aload_n hx hb dX4_offends_139 rfl (lv_at hl 1 rfl) ?_
        refine va_get (D := D) (v := .ref a) (C := RX4) (T := TX4) (N := 10) hx hb hts iw_X4 hown hK hP 0 rfl rfl 0 (by decide) (hts _ mw_414) (fun _ h9 => h9) hfs dX4_offends_140 ?_
        refine lv_iload hx hb dX4_offends_143 (lv_at hl 0 rfl) ?_
        refine lv_iconst (v := 3) hx hb dX4_offends_145 (by decide) ?_
        refine lv_iadd hx hb dX4_offends_146 ?_
        refine lv_aload_n hx hb dX4_offends_147 rfl (lv_at hl 1 rfl) ?_
        refine va_get (D := D) (v := .ref a) (C := RX4) (T := TX4) (N := 10) hx hb hts iw_X4 hown hK hP 0 rfl rfl 0 (by decide) (hts _ mw_414) (fun _ h9 => h9) hfs dX4_offends_148 ?_
        refine lv_iconst (v := 4) hx hb dX4_offends_151 (by decide) ?_
        obtain ⟨x25, h26, h⟩ := bE h
        refine x_iald (cA := cI) hx hb hK hP 1 0 rfl rfl h26 dX4_offends_152 ?_
        obtain ⟨g27, h28, h⟩ := bE h
        refine x_iast (cA := cI) hx hb hK hP hD hS 1 0 rfl rfl h28 dX4_offends_153 (fun H locs hP hD hS => ?_)
        have hP : va_P D vwCl (wS cI o fs a g27) H := hP
        have hD : va_D (va_A (wS cI o fs a u) s.heap.size) (wS cI o fs a g27) := hD
        refine lv_aload_n hx hb dX4_offends_154 rfl (lv_at hl 1 rfl) ?_
        refine va_get (D := D) (v := .ref a) (C := RX4) (T := TX4) (N := 10) hx hb hts iw_X4 hown hK hP 0 rfl rfl 0 (by decide) (hts _ mw_414) (fun _ h9 => h9) hfs dX4_offends_155 ?_
        refine lv_iload hx hb dX4_offends_158 (lv_at hl 0 rfl) ?_
        refine lv_iconst (v := 4) hx hb dX4_offends_160 (by decide) ?_
        refine lv_iadd hx hb dX4_offends_161 ?_
        refine lv_iconst (v := 0) hx hb dX4_offends_162 (by decide) ?_
        obtain ⟨g29, h30, h⟩ := bE h
        refine x_iast (cA := cI) hx hb hK hP hD hS 1 0 rfl rfl h30 dX4_offends_163 (fun H locs hP hD hS => ?_)
        have hP : va_P D vwCl (wS cI o fs a g29) H := hP
        have hD : va_D (va_A (wS cI o fs a u) s.heap.size) (wS cI o fs a g29) := hD
        refine lv_aload_n hx hb dX4_offends_164 rfl (lv_at hl 1 rfl) ?_
        refine va_get (D := D) (v := .ref a) (C := RX4) (T := TX4) (N := 10) hx hb hts iw_X4 hown hK hP 0 rfl rfl 0 (by decide) (hts _ mw_414) (fun _ h9 => h9) hfs dX4_offends_165 ?_
        refine lv_iload hx hb dX4_offends_168 (lv_at hl 0 rfl) ?_
        refine lv_iconst (v := 5) hx hb dX4_offends_170 (by decide) ?_
        refine lv_iadd hx hb dX4_offends_171 ?_
        refine lv_bipush (v := (-6)) hx hb dX4_offends_172 (by decide) ?_
        obtain ⟨g31, h32, h⟩ := bE h
        refine x_iast (cA := cI) hx hb hK hP hD hS 1 0 rfl rfl h32 dX4_offends_174 (fun H locs hP hD hS => ?_)
        have hP : va_P D vwCl (wS cI o fs a g31) H := hP
        have hD : va_D (va_A (wS cI o fs a u) s.heap.size) (wS cI o fs a g31) := hD
        refine lv_aload_n hx hb dX4_offends_175 rfl (lv_at hl 1 rfl) ?_
        refine va_get (D := D) (v := .ref a) (C := RX4) (T := TX4) (N := 10) hx hb hts iw_X4 hown hK hP 0 rfl rfl 0 (by decide) (hts _ mw_414) (fun _ h9 => h9) hfs dX4_offends_176 ?_
        refine lv_iload hx hb dX4_offends_179 (lv_at hl 0 rfl) ?_
        refine lv_bipush (v := 6) hx hb dX4_offends_181 (by decide) ?_
        refine lv_iadd hx hb dX4_offends_183 ?_
        refine lv_bipush (v := (-6)) hx hb dX4_offends_184 (by decide) ?_
        obtain ⟨g33, h34, h⟩ := bE h
        refine x_iast (cA := cI) hx hb hK hP hD hS 1 0 rfl rfl h34 dX4_offends_186 (fun H locs hP hD hS => ?_)
        have hP : va_P D vwCl (wS cI o fs a g33) H := hP
        have hD : va_D (va_A (wS cI o fs a u) s.heap.size) (wS cI o fs a g33) := hD
        refine lv_aload_n hx hb dX4_offends_187 rfl (lv_at hl 1 rfl) ?_
        refine va_get (D := D) (v := .ref a) (C := RX4) (T := TX4) (N := 10) hx hb hts iw_X4 hown hK hP 0 rfl rfl 0 (by decide) (hts _ mw_414) (fun _ h9 => h9) hfs dX4_offends_188 ?_
        refine lv_iload hx hb dX4_offends_191 (lv_at hl 0 rfl) ?_
        refine lv_bipush (v := 7) hx hb dX4_offends_193 (by decide) ?_
        refine lv_iadd hx hb dX4_offends_195 ?_
        refine lv_iconst (v := 0) hx hb dX4_offends_196 (by decide) ?_
        obtain ⟨g35, h36, h⟩ := bE h
        refine x_iast (cA := cI) hx hb hK hP hD hS 1 0 rfl rfl h36 dX4_offends_197 (fun H locs hP hD hS => ?_)
        have hP : va_P D vwCl (wS cI o fs a g35) H := hP
        have hD : va_D (va_A (wS cI o fs a u) s.heap.size) (wS cI o fs a g35) := hD
        refine lv_aload_n hx hb dX4_offends_198 rfl (lv_at hl 1 rfl) ?_
        refine va_get (D := D) (v := .ref a) (C := RX4) (T := TX4) (N := 10) hx hb hts iw_X4 hown hK hP 0 rfl rfl 0 (by decide) (hts _ mw_414) (fun _ h9 => h9) hfs dX4_offends_199 ?_
        refine lv_bipush (v := 47) hx hb dX4_offends_202 (by decide) ?_
        refine lv_dup2_11 hx hb dX4_offends_204 rfl rfl ?_
        obtain ⟨x37, h38, h⟩ := bE h
        refine x_iald (cA := cI) hx hb hK hP 1 0 rfl rfl h38 dX4_offends_205 ?_
        refine lv_iconst (v := 1) hx hb dX4_offends_206 (by decide) ?_
        refine lv_iadd hx hb dX4_offends_207 ?_
        obtain ⟨g39, h40, h⟩ := bE h
        refine x_iast (cA := cI) hx hb hK hP hD hS 1 0 rfl rfl h40 dX4_offends_208 (fun H locs hP hD hS => ?_)
        have hP : va_P D vwCl (wS cI o fs a g39) H := hP
        have hD : va_D (va_A (wS cI o fs a u) s.heap.size) (wS cI o fs a g39) := hD
        refine lv_aload_n hx hb dX4_offends_209 rfl (lv_at hl 1 rfl) ?_
        refine lv_iconst (v := 0) hx hb dX4_offends_210 (by decide) ?_
        refine lv_aload_n hx hb dX4_offends_211 rfl (lv_at hl 1 rfl) ?_
        refine va_get (D := D) (v := .ref a) (C := RX4) (T := TX4) (N := 10) hx hb hts iw_X4 hown hK hP 0 rfl rfl 0 (by decide) (hts _ mw_414) (fun _ h9 => h9) hfs dX4_offends_212 ?_
        refine lv_bipush (v := 47) hx hb dX4_offends_215 (by decide) ?_
        obtain ⟨x41, h42, h⟩ := bE h
        refine x_iald (cA := cI) hx hb hK hP 1 0 rfl rfl h42 dX4_offends_217 ?_
        refine lv_iconst (v := 1) hx hb dX4_offends_218 (by decide) ?_
        refine lv_isub hx hb dX4_offends_219 ?_
        obtain ⟨x43, h44, h⟩ := bE h
        refine x_VV (As := [.int (0 : Int32), .int (x41 - (1 : Int32))]) (rest := []) (wr := []) (W1 := wS cI o fs a x43) hF (c_X4_tell l D cI cZ cT _ o fs a hfs g39 (0 : Int32) (x41 - (1 : Int32)) x43 h44) (cwV 2 hts (gqV mw_488 mw_489 mw_490 mw_428 mw_472) rfl rfl rfl hd_X4_tell ⟨Nat.le_of_ble_eq_true rfl, Nat.le_of_ble_eq_true rfl⟩) hK hP hD hS hA q_T_bl (fun _ _ _ => trivial) [0, 1] [] [0, 1] rfl rfl ⟨rfl, rfl, rfl, rfl⟩ rfl rfl rfl rfl hl.1 rfl (Nat.le_of_ble_eq_true rfl) dX4_offends_220 ⟨Nat.zero_le _, Nat.zero_le _⟩ (fun H locs hP hD hS => ?_)
        refine lv_aload_n hx hb dX4_offends_223 rfl (lv_at hl 1 rfl) ?_
        refine va_get (D := D) (v := .ref a) (C := RX4) (T := TX4) (N := 10) hx hb hts iw_X4 hown hK hP 0 rfl rfl 0 (by decide) (hts _ mw_414) (fun _ h9 => h9) hfs dX4_offends_224 ?_
        refine lv_bipush (v := 47) hx hb dX4_offends_227 (by decide) ?_
        obtain ⟨x45, h46, h⟩ := bE h
        refine x_iald (cA := cI) hx hb hK hP 1 0 rfl rfl h46 dX4_offends_229 ?_
        refine lv_iconst (v := 1) hx hb dX4_offends_230 (by decide) ?_
        refine lv_isub hx hb dX4_offends_231 ?_
        cases h
        exact x_retM C0 rfl hP hD hS dX4_offends_232
      · have h := xt c16 h
        refine lv_bipush (v := (-4)) hx hb dX4_offends_93 (by decide) ?_
        cases h
        exact x_retM C0 rfl hP hD hS dX4_offends_95
    · have h := xf c13 h
      refine lv_aload_n hx hb dX4_offends_51 rfl (lv_at hl 0 rfl) ?_
      refine lv_iload hx hb dX4_offends_52 (lv_at hl 4 rfl) ?_
      refine lv_iload_n hx hb dX4_offends_54 rfl (lv_at hl 1 rfl) ?_
      refine lv_iload_n hx hb dX4_offends_55 rfl (lv_at hl 2 rfl) ?_
      obtain ⟨x47, h48, h⟩ := bE h
      refine x_RV (As := [.int y4, .int y1, .int y2]) (rest := []) hF (c_X4_areOfThese l D cI cZ cT o fs a hfs z0 y4 y1 y2 x47 h48) (cwV 3 hts (gqV mw_441 mw_442 mw_443 mw_428 mw_436) rfl rfl rfl hd_X4_areOfThese ⟨Nat.le_of_ble_eq_true rfl, Nat.le_of_ble_eq_true rfl⟩) hK hP q_T_bl (fun _ _ _ => trivial) [0, 1] rfl rfl rfl rfl hl.1 rfl (Nat.le_of_ble_eq_true rfl) dX4_offends_56 ⟨Nat.zero_le _, Nat.zero_le _⟩ ?_
      refine lv_if_eq (tgt := 75) hx hb dX4_offends_59 (by decide) (fun c49 => ?_) (fun c49 => ?_)
      · have h := xt c49 h
        refine lv_iinc (v := (y4 + (1 : Int32))) (lv' := [(4, .int (y4 + (1 : Int32))), (0, .ref o), (1, .int y1), (2, .int y2), (3, .int y3)]) hx hb dX4_offends_75 hl (k := 4) rfl rfl (by decide) rfl (fun ls hl => ?_)
        refine lv_goto (tgt := 39) hx hb dX4_offends_78 (by decide) ?_
        exact ih (y4 + (1 : Int32)) _ (lv_sub hl [1, 2, 3, 4, 0] rfl) h
      · have h := xf c49 h
        refine lv_aload_n hx hb dX4_offends_62 rfl (lv_at hl 0 rfl) ?_
        refine lv_iload hx hb dX4_offends_63 (lv_at hl 4 rfl) ?_
        refine lv_iconst (v := 4) hx hb dX4_offends_65 (by decide) ?_
        obtain ⟨x50, h51, h⟩ := bE h
        refine x_RV (As := [.int y4, .int (4 : Int32)]) (rest := []) hF (c_X4_quarrel0 l D cI cZ cT o fs a hfs z0 y4 (4 : Int32) x50 h51) (cwV 2 hts (gqV mw_437 mw_438 mw_439 mw_428 mw_431) rfl rfl rfl hd_X4_quarrel0 ⟨Nat.le_of_ble_eq_true rfl, Nat.le_of_ble_eq_true rfl⟩) hK hP q_T_bl (fun _ _ _ => trivial) [0, 1] rfl rfl rfl rfl hl.1 rfl (Nat.le_of_ble_eq_true rfl) dX4_offends_66 ⟨Nat.zero_le _, Nat.zero_le _⟩ ?_
        refine lv_if_ne (tgt := 75) hx hb dX4_offends_69 (by decide) (fun c52 => ?_) (fun c52 => ?_)
        · have h := xf c52 h
          refine lv_iinc (v := (y4 + (1 : Int32))) (lv' := [(4, .int (y4 + (1 : Int32))), (0, .ref o), (1, .int y1), (2, .int y2), (3, .int y3)]) hx hb dX4_offends_75 hl (k := 4) rfl rfl (by decide) rfl (fun ls hl => ?_)
          refine lv_goto (tgt := 39) hx hb dX4_offends_78 (by decide) ?_
          exact ih (y4 + (1 : Int32)) _ (lv_sub hl [1, 2, 3, 4, 0] rfl) h
        · have h := xt c52 h
          refine lv_bipush (v := (-5)) hx hb dX4_offends_72 (by decide) ?_
          cases h
          exact x_retM C0 rfl hP hD hS dX4_offends_74
set_option maxHeartbeats 4000000 in
set_option maxRecDepth 100000 in
theorem c_X4_offends (l : Launch) (D : va_G) (cI cZ cT : ClassId) (sz : Nat) (o : Nat) (fs : List Value) (a : Nat) (hfs : fs[0]? = some (.ref a)) (u : Nat → Int32) (a1 : Int32) (a2 : Int32) (a3 : Int32) (r : Int32 × (Nat → Int32)) (h : f_X4_offends u a1 a2 a3 = some r) : Met l yX4_offends (wq yX4_offends cX4_offends 5 (some .int)) rm_X4_offends (q_M D (q_tys cI cZ cT) sz (wS cI o fs a u) q_T [.ref o, .int a1, .int a2, .int a3]) (va_Qi (fun r' _ => r' = r.1) (q_B D (wS cI o fs a u) sz (wS cI o fs a r.2)) (va_A (wS cI o fs a u) sz)) 0 0 (va_A (wS cI o fs a u) sz) := by
  refine q_MI (cc := cX4_offends) (maxL := 5) (ret := (some .int)) (E := fun sz => q_T) (Qc := fun sz => (va_Qi (fun r' _ => r' = r.1) (q_B D (wS cI o fs a u) sz (wS cI o fs a r.2)) (va_A (wS cI o fs a u) sz))) (free := fun sz => va_A (wS cI o fs a u) sz) (plainFor_of_name (by decide)) (Nat.le_of_ble_eq_true rfl) (fun p e s m below meth c C0 hname hP hK hD hE ls hl => ?_)
  have hA : ∀ q, s.heap.size ≤ q → (va_A (wS cI o fs a u) s.heap.size) q := fun _ => Or.inr
  have hS : va_S (va_A (wS cI o fs a u) s.heap.size) s.heap s.heap [] := va_S.rf
  have hl : lv_has ls 5 [(0, .ref o), (1, .int a1), (2, .int a2), (3, .int a3)] := hl
  obtain ⟨hx, hb, hr, hml, hown, hts, hlocks⟩ := id C0
  have hF : CallFix p m c cX4_offends 5 s _ BW RX4 := ⟨hx, hb, hml, hown, hts⟩
  rw [f_X4_offends] at h
  refine lv_aload_n hx hb dX4_offends_0 rfl (lv_at hl 0 rfl) ?_
  refine lv_iload_n hx hb dX4_offends_1 rfl (lv_at hl 1 rfl) ?_
  obtain ⟨x1, h2, h⟩ := bE h
  refine x_RV (As := [.int a1]) (rest := []) hF (c_X4_isPerson l D cI cZ cT o fs a hfs u a1 x1 h2) (cwV 1 hts (gqV mw_483 mw_484 mw_485 mw_428 mw_425) rfl rfl rfl hd_X4_isPerson ⟨Nat.le_of_ble_eq_true rfl, Nat.le_of_ble_eq_true rfl⟩) hK hP q_T_bl (fun _ _ _ => trivial) [0, 1] rfl rfl rfl rfl hl.1 rfl (Nat.le_of_ble_eq_true rfl) dX4_offends_2 ⟨Nat.zero_le _, Nat.zero_le _⟩ ?_
  refine lv_if_eq (tgt := 16) hx hb dX4_offends_5 (by decide) (fun c3 => ?_) (fun c3 => ?_)
  · have h := xt c3 h
    refine lv_iconst (v := (-1)) hx hb dX4_offends_16 (by decide) ?_
    cases h
    exact x_retM C0 rfl hP hD hS dX4_offends_17
  · have h := xf c3 h
    refine lv_aload_n hx hb dX4_offends_8 rfl (lv_at hl 0 rfl) ?_
    refine lv_iload_n hx hb dX4_offends_9 rfl (lv_at hl 2 rfl) ?_
    obtain ⟨x4, h5, h⟩ := bE h
    refine x_RV (As := [.int a2]) (rest := []) hF (c_X4_isPerson l D cI cZ cT o fs a hfs u a2 x4 h5) (cwV 1 hts (gqV mw_483 mw_484 mw_485 mw_428 mw_425) rfl rfl rfl hd_X4_isPerson ⟨Nat.le_of_ble_eq_true rfl, Nat.le_of_ble_eq_true rfl⟩) hK hP q_T_bl (fun _ _ _ => trivial) [0, 1] rfl rfl rfl rfl hl.1 rfl (Nat.le_of_ble_eq_true rfl) dX4_offends_10 ⟨Nat.zero_le _, Nat.zero_le _⟩ ?_
    refine lv_if_ne (tgt := 18) hx hb dX4_offends_13 (by decide) (fun c6 => ?_) (fun c6 => ?_)
    · have h := xf c6 h
      refine lv_iload_n hx hb dX4_offends_18 rfl (lv_at hl 1 rfl) ?_
      refine lv_iload_n hx hb dX4_offends_19 rfl (lv_at hl 2 rfl) ?_
      refine lv_icmp_eq (tgt := 33) hx hb dX4_offends_20 (by decide) (fun c7 => ?_) (fun c7 => ?_)
      · have h := xt c7 h
        refine lv_bipush (v := (-2)) hx hb dX4_offends_33 (by decide) ?_
        cases h
        exact x_retM C0 rfl hP hD hS dX4_offends_35
      · have h := xf c7 h
        refine lv_iload_n hx hb dX4_offends_23 rfl (lv_at hl 3 rfl) ?_
        refine lv_iconst (v := 1) hx hb dX4_offends_24 (by decide) ?_
        refine lv_bipush (v := 9) hx hb dX4_offends_25 (by decide) ?_
        obtain ⟨x8, h9, h⟩ := bE h
        refine x_RS (As := [.int a3, .int (1 : Int32), .int (9 : Int32)]) (rest := []) hF (c_X4_in l D cI cZ cT  a3 (1 : Int32) (9 : Int32) x8 h9) (va_cwS 3 hts (gqS mw_426 mw_427 mw_428 mw_421) rfl rfl rfl hd_X4_in.2 ⟨Nat.le_of_ble_eq_true rfl, Nat.le_of_ble_eq_true rfl⟩) hK hP q_T_bl (fun _ _ _ => trivial) [] rfl rfl hl.1 rfl (Nat.le_of_ble_eq_true rfl) dX4_offends_27 ⟨Nat.zero_le _, Nat.zero_le _⟩ ?_
        refine lv_if_ne (tgt := 36) hx hb dX4_offends_30 (by decide) (fun c10 => ?_) (fun c10 => ?_)
        · have h := xf c10 h
          refine lv_iconst (v := 0) hx hb dX4_offends_36 (by decide) ?_
          refine lv_istore (lv' := [(4, .int (0 : Int32)), (0, .ref o), (1, .int a1), (2, .int a2), (3, .int a3)]) hx hb dX4_offends_37 hl (by decide) rfl (fun ls hl => ?_)
          exact k_X4_offends_L39 o fs a hfs u a1 a2 a3 u hA hP hD hS C0 hK 2000 (0 : Int32) _ (lv_sub hl [1, 2, 3, 4, 0] rfl) h
        · have h := xt c10 h
          refine lv_bipush (v := (-2)) hx hb dX4_offends_33 (by decide) ?_
          cases h
          exact x_retM C0 rfl hP hD hS dX4_offends_35
    · have h := xt c6 h
      refine lv_iconst (v := (-1)) hx hb dX4_offends_16 (by decide) ?_
      cases h
      exact x_retM C0 rfl hP hD hS dX4_offends_17

/-! QuarrelWaysModel.settles (II)I -/
def f_X4_settles (u : Nat → Int32) (a1 : Int32) (a2 : Int32) : Option (Int32 × (Nat → Int32)) := ((f_X4_isQuarrel u a1).bind fun x1 => (if x1 = 0 then some ((-1 : Int32), u) else ((f_X4_in a2 (0 : Int32) (4 : Int32)).bind fun x4 => (if x4 = 0 then some ((-1 : Int32), u) else ((f_X4_waysOf u a1 (0 : Int32)).bind fun x7 => (if ((x7 >>> (a2 &&& 31)) &&& (1 : Int32)) = 0 then some ((-5 : Int32), u) else ((wr u 181 (((48 : Int32) + ((8 : Int32) * a1)) + (4 : Int32)) (1 : Int32)).bind fun g10 => ((wr g10 181 (((48 : Int32) + ((8 : Int32) * a1)) + (5 : Int32)) a2).bind fun g12 => ((rd g12 181 (4 : Int32)).bind fun x14 => ((wr g12 181 (((48 : Int32) + ((8 : Int32) * a1)) + (7 : Int32)) x14).bind fun g16 => (((if a2 = 0 then ((rd g16 181 ((48 : Int32) + ((8 : Int32) * a1))).bind fun x40 => ((f_X4_change g16 x40 (0 : Int32) (-1 : Int32)).bind fun x42 => some x42)) else some g16) : Option ((Nat → Int32))).bind fun v18 => (((if a2 = (1 : Int32) then ((rd v18 181 ((48 : Int32) + ((8 : Int32) * a1))).bind fun x27 => ((f_X4_person0 v18 x27 (2 : Int32)).bind fun x29 => ((f_X4_change v18 x29 (1 : Int32) (1 : Int32)).bind fun x31 => ((rd x31 181 (((48 : Int32) + ((8 : Int32) * a1)) + (1 : Int32))).bind fun x33 => ((f_X4_person0 x31 x33 (2 : Int32)).bind fun x35 => ((f_X4_change x31 x35 (1 : Int32) (1 : Int32)).bind fun x37 => some x37)))))) else some v18) : Option ((Nat → Int32))).bind fun v19 => ((f_X4_tell v19 (1 : Int32) a1).bind fun x20 => ((f_X4_quarrelsThat x20 (0 : Int32)).bind fun x22 => ((f_X4_size x22).bind fun x24 => some (x24, x20))))))))))))))))
abbrev rm_X4_settles : Room := { frames := 5, cells := 0, slots := 0, locals := 123 }
theorem hd_X4_settles : yX4_settles.cls = RX4 ∧ yX4_settles.cls ≠ "java/lang/invoke/MethodHandle" ∧ yX4_settles.cls ≠ "java/lang/invoke/VarHandle" ∧ (parseMethodDescriptor yX4_settles.desc).map (fun d => d.parameters.length) = some 2 := by decide +kernel
set_option maxHeartbeats 4000000 in
set_option maxRecDepth 100000 in
theorem c_X4_settles (l : Launch) (D : va_G) (cI cZ cT : ClassId) (sz : Nat) (o : Nat) (fs : List Value) (a : Nat) (hfs : fs[0]? = some (.ref a)) (u : Nat → Int32) (a1 : Int32) (a2 : Int32) (r : Int32 × (Nat → Int32)) (h : f_X4_settles u a1 a2 = some r) : Met l yX4_settles (wq yX4_settles cX4_settles 4 (some .int)) rm_X4_settles (q_M D (q_tys cI cZ cT) sz (wS cI o fs a u) q_T [.ref o, .int a1, .int a2]) (va_Qi (fun r' _ => r' = r.1) (q_B D (wS cI o fs a u) sz (wS cI o fs a r.2)) (va_A (wS cI o fs a u) sz)) 0 0 (va_A (wS cI o fs a u) sz) := by
  refine q_MI (cc := cX4_settles) (maxL := 4) (ret := (some .int)) (E := fun sz => q_T) (Qc := fun sz => (va_Qi (fun r' _ => r' = r.1) (q_B D (wS cI o fs a u) sz (wS cI o fs a r.2)) (va_A (wS cI o fs a u) sz))) (free := fun sz => va_A (wS cI o fs a u) sz) (plainFor_of_name (by decide)) (Nat.le_of_ble_eq_true rfl) (fun p e s m below meth c C0 hname hP hK hD hE ls hl => ?_)
  have hA : ∀ q, s.heap.size ≤ q → (va_A (wS cI o fs a u) s.heap.size) q := fun _ => Or.inr
  have hS : va_S (va_A (wS cI o fs a u) s.heap.size) s.heap s.heap [] := va_S.rf
  have hl : lv_has ls 4 [(0, .ref o), (1, .int a1), (2, .int a2)] := hl
  obtain ⟨hx, hb, hr, hml, hown, hts, hlocks⟩ := id C0
  have hF : CallFix p m c cX4_settles 4 s _ BW RX4 := ⟨hx, hb, hml, hown, hts⟩
  rw [f_X4_settles] at h
  refine lv_aload_n hx hb dX4_settles_0 rfl (lv_at hl 0 rfl) ?_
  refine lv_iload_n hx hb dX4_settles_1 rfl (lv_at hl 1 rfl) ?_
  obtain ⟨x1, h2, h⟩ := bE h
  refine x_RV (As := [.int a1]) (rest := []) hF (c_X4_isQuarrel l D cI cZ cT o fs a hfs u a1 x1 h2) (cwV 1 hts (gqV mw_491 mw_492 mw_493 mw_428 mw_429) rfl rfl rfl hd_X4_isQuarrel ⟨Nat.le_of_ble_eq_true rfl, Nat.le_of_ble_eq_true rfl⟩) hK hP q_T_bl (fun _ _ _ => trivial) [0, 1] rfl rfl rfl rfl hl.1 rfl (Nat.le_of_ble_eq_true rfl) dX4_settles_2 ⟨Nat.zero_le _, Nat.zero_le _⟩ ?_
  refine lv_if_eq (tgt := 17) hx hb dX4_settles_5 (by decide) (fun c3 => ?_) (fun c3 => ?_)
  · have h := xt c3 h
    refine lv_iconst (v := (-1)) hx hb dX4_settles_17 (by decide) ?_
    cases h
    exact x_retM C0 rfl hP hD hS dX4_settles_18
  · have h := xf c3 h
    refine lv_iload_n hx hb dX4_settles_8 rfl (lv_at hl 2 rfl) ?_
    refine lv_iconst (v := 0) hx hb dX4_settles_9 (by decide) ?_
    refine lv_iconst (v := 4) hx hb dX4_settles_10 (by decide) ?_
    obtain ⟨x4, h5, h⟩ := bE h
    refine x_RS (As := [.int a2, .int (0 : Int32), .int (4 : Int32)]) (rest := []) hF (c_X4_in l D cI cZ cT  a2 (0 : Int32) (4 : Int32) x4 h5) (va_cwS 3 hts (gqS mw_426 mw_427 mw_428 mw_421) rfl rfl rfl hd_X4_in.2 ⟨Nat.le_of_ble_eq_true rfl, Nat.le_of_ble_eq_true rfl⟩) hK hP q_T_bl (fun _ _ _ => trivial) [] rfl rfl hl.1 rfl (Nat.le_of_ble_eq_true rfl) dX4_settles_11 ⟨Nat.zero_le _, Nat.zero_le _⟩ ?_
    refine lv_if_ne (tgt := 19) hx hb dX4_settles_14 (by decide) (fun c6 => ?_) (fun c6 => ?_)
    · have h := xf c6 h
      refine lv_aload_n hx hb dX4_settles_19 rfl (lv_at hl 0 rfl) ?_
      refine lv_iload_n hx hb dX4_settles_20 rfl (lv_at hl 1 rfl) ?_
      refine lv_iconst (v := 0) hx hb dX4_settles_21 (by decide) ?_
      obtain ⟨x7, h8, h⟩ := bE h
      refine x_RV (As := [.int a1, .int (0 : Int32)]) (rest := []) hF (c_X4_waysOf l D cI cZ cT o fs a hfs u a1 (0 : Int32) x7 h8) (cwV 2 hts (gqV mw_463 mw_464 mw_465 mw_428 mw_462) rfl rfl rfl hd_X4_waysOf ⟨Nat.le_of_ble_eq_true rfl, Nat.le_of_ble_eq_true rfl⟩) hK hP q_T_bl (fun _ _ _ => trivial) [0, 1] rfl rfl rfl rfl hl.1 rfl (Nat.le_of_ble_eq_true rfl) dX4_settles_22 ⟨Nat.zero_le _, Nat.zero_le _⟩ ?_
      refine lv_iload_n hx hb dX4_settles_25 rfl (lv_at hl 2 rfl) ?_
      refine lv_ishr hx hb dX4_settles_26 ?_
      refine lv_iconst (v := 1) hx hb dX4_settles_27 (by decide) ?_
      refine lv_iand hx hb dX4_settles_28 ?_
      refine lv_if_ne (tgt := 35) hx hb dX4_settles_29 (by decide) (fun c9 => ?_) (fun c9 => ?_)
      · have h := xf c9 h
        refine lv_bipush (v := 48) hx hb dX4_settles_35 (by decide) ?_
        refine lv_bipush (v := 8) hx hb dX4_settles_37 (by decide) ?_
        refine lv_iload_n hx hb dX4_settles_39 rfl (lv_at hl 1 rfl) ?_
        refine lv_imul hx hb dX4_settles_40 ?_
        refine lv_iadd hx hb dX4_settles_41 ?_
        refine lv_istore_n (lv' := [(3, .int ((48 : Int32) + ((8 : Int32) * a1))), (0, .ref o), (1, .int a1), (2, .int a2)]) hx hb dX4_settles_42 rfl hl (by decide) rfl (fun ls hl => ?_)
        refine lv_aload_n hx hb dX4_settles_43 rfl (lv_at hl 1 rfl) ?_
        refine va_get (D := D) (v := .ref a) (C := RX4) (T := TX4) (N := 10) hx hb hts iw_X4 hown hK hP 0 rfl rfl 0 (by decide) (hts _ mw_414) (fun _ h9 => h9) hfs dX4_settles_44 ?_
        refine lv_iload_n hx hb dX4_settles_47 rfl (lv_at hl 0 rfl) ?_
        refine lv_iconst (v := 4) hx hb dX4_settles_48 (by decide) ?_
        refine lv_iadd hx hb dX4_settles_49 ?_
        refine lv_iconst (v := 1) hx hb dX4_settles_50 (by decide) ?_
        obtain ⟨g10, h11, h⟩ := bE h
        refine x_iast (cA := cI) hx hb hK hP hD hS 1 0 rfl rfl h11 dX4_settles_51 (fun H locs hP hD hS => ?_)
        have hP : va_P D vwCl (wS cI o fs a g10) H := hP
        have hD : va_D (va_A (wS cI o fs a u) s.heap.size) (wS cI o fs a g10) := hD
        refine lv_aload_n hx hb dX4_settles_52 rfl (lv_at hl 1 rfl) ?_
        refine va_get (D := D) (v := .ref a) (C := RX4) (T := TX4) (N := 10) hx hb hts iw_X4 hown hK hP 0 rfl rfl 0 (by decide) (hts _ mw_414) (fun _ h9 => h9) hfs dX4_settles_53 ?_
        refine lv_iload_n hx hb dX4_settles_56 rfl (lv_at hl 0 rfl) ?_
        refine lv_iconst (v := 5) hx hb dX4_settles_57 (by decide) ?_
        refine lv_iadd hx hb dX4_settles_58 ?_
        refine lv_iload_n hx hb dX4_settles_59 rfl (lv_at hl 3 rfl) ?_
        obtain ⟨g12, h13, h⟩ := bE h
        refine x_iast (cA := cI) hx hb hK hP hD hS 1 0 rfl rfl h13 dX4_settles_60 (fun H locs hP hD hS => ?_)
        have hP : va_P D vwCl (wS cI o fs a g12) H := hP
        have hD : va_D (va_A (wS cI o fs a u) s.heap.size) (wS cI o fs a g12) := hD
        refine lv_aload_n hx hb dX4_settles_61 rfl (lv_at hl 1 rfl) ?_
        refine va_get (D := D) (v := .ref a) (C := RX4) (T := TX4) (N := 10) hx hb hts iw_X4 hown hK hP 0 rfl rfl 0 (by decide) (hts _ mw_414) (fun _ h9 => h9) hfs dX4_settles_62 ?_
        refine lv_iload_n hx hb dX4_settles_65 rfl (lv_at hl 0 rfl) ?_
        refine lv_bipush (v := 7) hx hb dX4_settles_66 (by decide) ?_
        refine lv_iadd hx hb dX4_settles_68 ?_
        refine lv_aload_n hx hb dX4_settles_69 rfl (lv_at hl 1 rfl) ?_
        refine va_get (D := D) (v := .ref a) (C := RX4) (T := TX4) (N := 10) hx hb hts iw_X4 hown hK hP 0 rfl rfl 0 (by decide) (hts _ mw_414) (fun _ h9 => h9) hfs dX4_settles_70 ?_
        refine lv_iconst (v := 4) hx hb dX4_settles_73 (by decide) ?_
        obtain ⟨x14, h15, h⟩ := bE h
        refine x_iald (cA := cI) hx hb hK hP 1 0 rfl rfl h15 dX4_settles_74 ?_
        obtain ⟨g16, h17, h⟩ := bE h
        refine x_iast (cA := cI) hx hb hK hP hD hS 1 0 rfl rfl h17 dX4_settles_75 (fun H locs hP hD hS => ?_)
        have hP : va_P D vwCl (wS cI o fs a g16) H := hP
        have hD : va_D (va_A (wS cI o fs a u) s.heap.size) (wS cI o fs a g16) := hD
        refine lv_iload_n hx hb dX4_settles_76 rfl (lv_at hl 3 rfl) ?_
        refine x_jM (V := (Nat → Int32)) (nL := 4) (D := D) (A := (va_A (wS cI o fs a u) s.heap.size)) (H0 := s.heap) (fun v18 => [(0, .ref o), (1, .int a1), (2, .int a2), (3, .int ((48 : Int32) + ((8 : Int32) * a1)))]) 92 (fun v18 => []) (fun v18 => wS cI o fs a v18) h (fun v18 h H locs ls hP hD hS hl => ?_) (fun v18 h hj => ?_)
        · refine lv_iload_n hx hb dX4_settles_92 rfl (lv_at hl 2 rfl) ?_
          refine lv_iconst (v := 1) hx hb dX4_settles_93 (by decide) ?_
          refine x_jM (V := (Nat → Int32)) (nL := 4) (D := D) (A := (va_A (wS cI o fs a u) s.heap.size)) (H0 := s.heap) (fun v19 => [(0, .ref o), (1, .int a1)]) 133 (fun v19 => []) (fun v19 => wS cI o fs a v19) h (fun v19 h H locs ls hP hD hS hl => ?_) (fun v19 h hj => ?_)
          · refine lv_aload_n hx hb dX4_settles_133 rfl (lv_at hl 0 rfl) ?_
            refine lv_iconst (v := 1) hx hb dX4_settles_134 (by decide) ?_
            refine lv_iload_n hx hb dX4_settles_135 rfl (lv_at hl 1 rfl) ?_
            obtain ⟨x20, h21, h⟩ := bE h
            refine x_VV (As := [.int (1 : Int32), .int a1]) (rest := []) (wr := []) (W1 := wS cI o fs a x20) hF (c_X4_tell l D cI cZ cT _ o fs a hfs v19 (1 : Int32) a1 x20 h21) (cwV 2 hts (gqV mw_488 mw_489 mw_490 mw_428 mw_472) rfl rfl rfl hd_X4_tell ⟨Nat.le_of_ble_eq_true rfl, Nat.le_of_ble_eq_true rfl⟩) hK hP hD hS hA q_T_bl (fun _ _ _ => trivial) [0, 1] [] [0, 1] rfl rfl ⟨rfl, rfl, rfl, rfl⟩ rfl rfl rfl rfl hl.1 rfl (Nat.le_of_ble_eq_true rfl) dX4_settles_136 ⟨Nat.zero_le _, Nat.zero_le _⟩ (fun H locs hP hD hS => ?_)
            refine lv_aload_n hx hb dX4_settles_139 rfl (lv_at hl 0 rfl) ?_
            refine lv_iconst (v := 0) hx hb dX4_settles_140 (by decide) ?_
            obtain ⟨x22, h23, h⟩ := bE h
            refine x_RV (As := [.int (0 : Int32)]) (rest := []) hF (c_X4_quarrelsThat l D cI cZ cT o fs a hfs x20 (0 : Int32) x22 h23) (cwV 1 hts (gqV mw_497 mw_498 mw_499 mw_428 mw_475) rfl rfl rfl hd_X4_quarrelsThat ⟨Nat.le_of_ble_eq_true rfl, Nat.le_of_ble_eq_true rfl⟩) hK hP q_T_bl (fun _ _ _ => trivial) [0, 1] rfl rfl rfl rfl hl.1 rfl (Nat.le_of_ble_eq_true rfl) dX4_settles_141 ⟨Nat.zero_le _, Nat.zero_le _⟩ ?_
            obtain ⟨x24, h25, h⟩ := bE h
            refine x_RS (As := [.int x22]) (rest := []) hF (c_X4_size l D cI cZ cT  x22 x24 h25) (va_cwS 1 hts (gqS mw_500 mw_501 mw_428 mw_476) rfl rfl rfl hd_X4_size.2 ⟨Nat.le_of_ble_eq_true rfl, Nat.le_of_ble_eq_true rfl⟩) hK hP q_T_bl (fun _ _ _ => trivial) [] rfl rfl hl.1 rfl (Nat.le_of_ble_eq_true rfl) dX4_settles_144 ⟨Nat.zero_le _, Nat.zero_le _⟩ ?_
            cases h
            exact x_retM C0 rfl hP hD hS dX4_settles_147
          · refine lv_icmp_ne (tgt := 133) hx hb dX4_settles_94 (by decide) (fun c26 => ?_) (fun c26 => ?_)
            · have h := xf c26 h
              cases h
              exact hj _ _ _ hP hD hS (lv_sub hl [0, 1] rfl)
            · have h := xt c26 h
              refine lv_aload_n hx hb dX4_settles_97 rfl (lv_at hl 0 rfl) ?_
              refine lv_aload_n hx hb dX4_settles_98 rfl (lv_at hl 0 rfl) ?_
              refine lv_aload_n hx hb dX4_settles_99 rfl (lv_at hl 0 rfl) ?_
              refine va_get (D := D) (v := .ref a) (C := RX4) (T := TX4) (N := 10) hx hb hts iw_X4 hown hK hP 0 rfl rfl 0 (by decide) (hts _ mw_414) (fun _ h9 => h9) hfs dX4_settles_100 ?_
              refine lv_iload_n hx hb dX4_settles_103 rfl (lv_at hl 3 rfl) ?_
              obtain ⟨x27, h28, h⟩ := bE h
              refine x_iald (cA := cI) hx hb hK hP 1 0 rfl rfl h28 dX4_settles_104 ?_
              refine lv_iconst (v := 2) hx hb dX4_settles_105 (by decide) ?_
              obtain ⟨x29, h30, h⟩ := bE h
              refine x_RV (As := [.int x27, .int (2 : Int32)]) (rest := [.ref o]) hF (c_X4_person0 l D cI cZ cT o fs a hfs v18 x27 (2 : Int32) x29 h30) (cwV 2 hts (gqV mw_433 mw_434 mw_435 mw_428 mw_430) rfl rfl rfl hd_X4_person0 ⟨Nat.le_of_ble_eq_true rfl, Nat.le_of_ble_eq_true rfl⟩) hK hP q_T_bl (fun _ _ _ => trivial) [0, 1] rfl rfl rfl rfl hl.1 rfl (Nat.le_of_ble_eq_true rfl) dX4_settles_106 ⟨Nat.zero_le _, Nat.zero_le _⟩ ?_
              refine lv_iconst (v := 1) hx hb dX4_settles_109 (by decide) ?_
              refine lv_iconst (v := 1) hx hb dX4_settles_110 (by decide) ?_
              obtain ⟨x31, h32, h⟩ := bE h
              refine x_VV (As := [.int x29, .int (1 : Int32), .int (1 : Int32)]) (rest := []) (wr := []) (W1 := wS cI o fs a x31) hF (c_X4_change l D cI cZ cT _ o fs a hfs v18 x29 (1 : Int32) (1 : Int32) x31 h32) (cwV 3 hts (gqV mw_494 mw_495 mw_496 mw_428 mw_473) rfl rfl rfl hd_X4_change ⟨Nat.le_of_ble_eq_true rfl, Nat.le_of_ble_eq_true rfl⟩) hK hP hD hS hA q_T_bl (fun _ _ _ => trivial) [0, 1] [] [0, 1] rfl rfl ⟨rfl, rfl, rfl, rfl⟩ rfl rfl rfl rfl hl.1 rfl (Nat.le_of_ble_eq_true rfl) dX4_settles_111 ⟨Nat.zero_le _, Nat.zero_le _⟩ (fun H locs hP hD hS => ?_)
              refine lv_aload_n hx hb dX4_settles_114 rfl (lv_at hl 0 rfl) ?_
              refine lv_aload_n hx hb dX4_settles_115 rfl (lv_at hl 0 rfl) ?_
              refine lv_aload_n hx hb dX4_settles_116 rfl (lv_at hl 0 rfl) ?_
              refine va_get (D := D) (v := .ref a) (C := RX4) (T := TX4) (N := 10) hx hb hts iw_X4 hown hK hP 0 rfl rfl 0 (by decide) (hts _ mw_414) (fun _ h9 => h9) hfs dX4_settles_117 ?_
              refine lv_iload_n hx hb dX4_settles_120 rfl (lv_at hl 3 rfl) ?_
              refine lv_iconst (v := 1) hx hb dX4_settles_121 (by decide) ?_
              refine lv_iadd hx hb dX4_settles_122 ?_
              obtain ⟨x33, h34, h⟩ := bE h
              refine x_iald (cA := cI) hx hb hK hP 1 0 rfl rfl h34 dX4_settles_123 ?_
              refine lv_iconst (v := 2) hx hb dX4_settles_124 (by decide) ?_
              obtain ⟨x35, h36, h⟩ := bE h
              refine x_RV (As := [.int x33, .int (2 : Int32)]) (rest := [.ref o]) hF (c_X4_person0 l D cI cZ cT o fs a hfs x31 x33 (2 : Int32) x35 h36) (cwV 2 hts (gqV mw_433 mw_434 mw_435 mw_428 mw_430) rfl rfl rfl hd_X4_person0 ⟨Nat.le_of_ble_eq_true rfl, Nat.le_of_ble_eq_true rfl⟩) hK hP q_T_bl (fun _ _ _ => trivial) [0, 1] rfl rfl rfl rfl hl.1 rfl (Nat.le_of_ble_eq_true rfl) dX4_settles_125 ⟨Nat.zero_le _, Nat.zero_le _⟩ ?_
              refine lv_iconst (v := 1) hx hb dX4_settles_128 (by decide) ?_
              refine lv_iconst (v := 1) hx hb dX4_settles_129 (by decide) ?_
              obtain ⟨x37, h38, h⟩ := bE h
              refine x_VV (As := [.int x35, .int (1 : Int32), .int (1 : Int32)]) (rest := []) (wr := []) (W1 := wS cI o fs a x37) hF (c_X4_change l D cI cZ cT _ o fs a hfs x31 x35 (1 : Int32) (1 : Int32) x37 h38) (cwV 3 hts (gqV mw_494 mw_495 mw_496 mw_428 mw_473) rfl rfl rfl hd_X4_change ⟨Nat.le_of_ble_eq_true rfl, Nat.le_of_ble_eq_true rfl⟩) hK hP hD hS hA q_T_bl (fun _ _ _ => trivial) [0, 1] [] [0, 1] rfl rfl ⟨rfl, rfl, rfl, rfl⟩ rfl rfl rfl rfl hl.1 rfl (Nat.le_of_ble_eq_true rfl) dX4_settles_130 ⟨Nat.zero_le _, Nat.zero_le _⟩ (fun H locs hP hD hS => ?_)
              cases h
              exact hj _ _ _ hP hD hS (lv_sub hl [0, 1] rfl)
        · refine lv_if_ne (tgt := 92) hx hb dX4_settles_77 (by decide) (fun c39 => ?_) (fun c39 => ?_)
          · have h := xf c39 h
            cases h
            exact hj _ _ _ hP hD hS (lv_sub hl [1, 2, 3, 0] rfl)
          · have h := xt c39 h
            refine lv_aload_n hx hb dX4_settles_80 rfl (lv_at hl 1 rfl) ?_
            refine lv_aload_n hx hb dX4_settles_81 rfl (lv_at hl 1 rfl) ?_
            refine va_get (D := D) (v := .ref a) (C := RX4) (T := TX4) (N := 10) hx hb hts iw_X4 hown hK hP 0 rfl rfl 0 (by decide) (hts _ mw_414) (fun _ h9 => h9) hfs dX4_settles_82 ?_
            refine lv_iload_n hx hb dX4_settles_85 rfl (lv_at hl 0 rfl) ?_
            obtain ⟨x40, h41, h⟩ := bE h
            refine x_iald (cA := cI) hx hb hK hP 1 0 rfl rfl h41 dX4_settles_86 ?_
            refine lv_iconst (v := 0) hx hb dX4_settles_87 (by decide) ?_
            refine lv_iconst (v := (-1)) hx hb dX4_settles_88 (by decide) ?_
            obtain ⟨x42, h43, h⟩ := bE h
            refine x_VV (As := [.int x40, .int (0 : Int32), .int (-1 : Int32)]) (rest := []) (wr := []) (W1 := wS cI o fs a x42) hF (c_X4_change l D cI cZ cT _ o fs a hfs g16 x40 (0 : Int32) (-1 : Int32) x42 h43) (cwV 3 hts (gqV mw_494 mw_495 mw_496 mw_428 mw_473) rfl rfl rfl hd_X4_change ⟨Nat.le_of_ble_eq_true rfl, Nat.le_of_ble_eq_true rfl⟩) hK hP hD hS hA q_T_bl (fun _ _ _ => trivial) [0, 1] [] [0, 1] rfl rfl ⟨rfl, rfl, rfl, rfl⟩ rfl rfl rfl rfl hl.1 rfl (Nat.le_of_ble_eq_true rfl) dX4_settles_89 ⟨Nat.zero_le _, Nat.zero_le _⟩ (fun H locs hP hD hS => ?_)
            cases h
            exact hj _ _ _ hP hD hS (lv_sub hl [1, 2, 3, 0] rfl)
      · have h := xt c9 h
        refine lv_bipush (v := (-5)) hx hb dX4_settles_32 (by decide) ?_
        cases h
        exact x_retM C0 rfl hP hD hS dX4_settles_34
    · have h := xt c6 h
      refine lv_iconst (v := (-1)) hx hb dX4_settles_17 (by decide) ?_
      cases h
      exact x_retM C0 rfl hP hD hS dX4_settles_18

/-! QuarrelWaysModel.fights (I)I -/
def f_X4_fights (u : Nat → Int32) (a1 : Int32) : Option (Int32 × (Nat → Int32)) := ((f_X4_isQuarrel u a1).bind fun x1 => (if x1 = 0 then some ((-1 : Int32), u) else ((f_X4_reason u a1 (0 : Int32)).bind fun x4 => (if x4 = 0 then ((f_X4_winnerOf u a1).bind fun x7 => ((rd u 181 ((48 : Int32) + ((8 : Int32) * a1))).bind fun x9 => ((rd u 181 (((48 : Int32) + ((8 : Int32) * a1)) + (1 : Int32))).bind fun x11 => ((wr u 181 (((48 : Int32) + ((8 : Int32) * a1)) + (4 : Int32)) (2 : Int32)).bind fun g13 => ((wr g13 181 (((48 : Int32) + ((8 : Int32) * a1)) + (6 : Int32)) x7).bind fun g15 => ((f_X4_change g15 x7 (0 : Int32) (1 : Int32)).bind fun x17 => ((f_X4_change x17 ((x9 + x11) - x7) (0 : Int32) (-2 : Int32)).bind fun x19 => ((f_X4_oath x19 x7).bind fun x21 => ((f_X4_oath x21 ((x9 + x11) - x7)).bind fun x23 => ((f_X4_tell x23 (2 : Int32) a1).bind fun x25 => some (x7, x25))))))))))) else some ((-5 : Int32), u)))))
abbrev rm_X4_fights : Room := { frames := 6, cells := 0, slots := 0, locals := 145 }
theorem hd_X4_fights : yX4_fights.cls = RX4 ∧ yX4_fights.cls ≠ "java/lang/invoke/MethodHandle" ∧ yX4_fights.cls ≠ "java/lang/invoke/VarHandle" ∧ (parseMethodDescriptor yX4_fights.desc).map (fun d => d.parameters.length) = some 1 := by decide +kernel
set_option maxHeartbeats 4000000 in
set_option maxRecDepth 100000 in
theorem c_X4_fights (l : Launch) (D : va_G) (cI cZ cT : ClassId) (sz : Nat) (o : Nat) (fs : List Value) (a : Nat) (hfs : fs[0]? = some (.ref a)) (u : Nat → Int32) (a1 : Int32) (r : Int32 × (Nat → Int32)) (h : f_X4_fights u a1 = some r) : Met l yX4_fights (wq yX4_fights cX4_fights 5 (some .int)) rm_X4_fights (q_M D (q_tys cI cZ cT) sz (wS cI o fs a u) q_T [.ref o, .int a1]) (va_Qi (fun r' _ => r' = r.1) (q_B D (wS cI o fs a u) sz (wS cI o fs a r.2)) (va_A (wS cI o fs a u) sz)) 0 0 (va_A (wS cI o fs a u) sz) := by
  refine q_MI (cc := cX4_fights) (maxL := 5) (ret := (some .int)) (E := fun sz => q_T) (Qc := fun sz => (va_Qi (fun r' _ => r' = r.1) (q_B D (wS cI o fs a u) sz (wS cI o fs a r.2)) (va_A (wS cI o fs a u) sz))) (free := fun sz => va_A (wS cI o fs a u) sz) (plainFor_of_name (by decide)) (Nat.le_of_ble_eq_true rfl) (fun p e s m below meth c C0 hname hP hK hD hE ls hl => ?_)
  have hA : ∀ q, s.heap.size ≤ q → (va_A (wS cI o fs a u) s.heap.size) q := fun _ => Or.inr
  have hS : va_S (va_A (wS cI o fs a u) s.heap.size) s.heap s.heap [] := va_S.rf
  have hl : lv_has ls 5 [(0, .ref o), (1, .int a1)] := hl
  obtain ⟨hx, hb, hr, hml, hown, hts, hlocks⟩ := id C0
  have hF : CallFix p m c cX4_fights 5 s _ BW RX4 := ⟨hx, hb, hml, hown, hts⟩
  rw [f_X4_fights] at h
  refine lv_aload_n hx hb dX4_fights_0 rfl (lv_at hl 0 rfl) ?_
  refine lv_iload_n hx hb dX4_fights_1 rfl (lv_at hl 1 rfl) ?_
  obtain ⟨x1, h2, h⟩ := bE h
  refine x_RV (As := [.int a1]) (rest := []) hF (c_X4_isQuarrel l D cI cZ cT o fs a hfs u a1 x1 h2) (cwV 1 hts (gqV mw_491 mw_492 mw_493 mw_428 mw_429) rfl rfl rfl hd_X4_isQuarrel ⟨Nat.le_of_ble_eq_true rfl, Nat.le_of_ble_eq_true rfl⟩) hK hP q_T_bl (fun _ _ _ => trivial) [0, 1] rfl rfl rfl rfl hl.1 rfl (Nat.le_of_ble_eq_true rfl) dX4_fights_2 ⟨Nat.zero_le _, Nat.zero_le _⟩ ?_
  refine lv_if_ne (tgt := 10) hx hb dX4_fights_5 (by decide) (fun c3 => ?_) (fun c3 => ?_)
  · have h := xf c3 h
    refine lv_aload_n hx hb dX4_fights_10 rfl (lv_at hl 0 rfl) ?_
    refine lv_iload_n hx hb dX4_fights_11 rfl (lv_at hl 1 rfl) ?_
    refine lv_iconst (v := 0) hx hb dX4_fights_12 (by decide) ?_
    obtain ⟨x4, h5, h⟩ := bE h
    refine x_RV (As := [.int a1, .int (0 : Int32)]) (rest := []) hF (c_X4_reason l D cI cZ cT o fs a hfs u a1 (0 : Int32) x4 h5) (cwV 2 hts (gqV mw_477 mw_478 mw_479 mw_428 mw_466) rfl rfl rfl hd_X4_reason ⟨Nat.le_of_ble_eq_true rfl, Nat.le_of_ble_eq_true rfl⟩) hK hP q_T_bl (fun _ _ _ => trivial) [0, 1] rfl rfl rfl rfl hl.1 rfl (Nat.le_of_ble_eq_true rfl) dX4_fights_13 ⟨Nat.zero_le _, Nat.zero_le _⟩ ?_
    refine lv_if_eq (tgt := 22) hx hb dX4_fights_16 (by decide) (fun c6 => ?_) (fun c6 => ?_)
    · have h := xt c6 h
      refine lv_bipush (v := 48) hx hb dX4_fights_22 (by decide) ?_
      refine lv_bipush (v := 8) hx hb dX4_fights_24 (by decide) ?_
      refine lv_iload_n hx hb dX4_fights_26 rfl (lv_at hl 1 rfl) ?_
      refine lv_imul hx hb dX4_fights_27 ?_
      refine lv_iadd hx hb dX4_fights_28 ?_
      refine lv_istore_n (lv' := [(2, .int ((48 : Int32) + ((8 : Int32) * a1))), (0, .ref o), (1, .int a1)]) hx hb dX4_fights_29 rfl hl (by decide) rfl (fun ls hl => ?_)
      refine lv_aload_n hx hb dX4_fights_30 rfl (lv_at hl 1 rfl) ?_
      refine lv_iload_n hx hb dX4_fights_31 rfl (lv_at hl 2 rfl) ?_
      obtain ⟨x7, h8, h⟩ := bE h
      refine x_RV (As := [.int a1]) (rest := []) hF (c_X4_winnerOf l D cI cZ cT o fs a hfs u a1 x7 h8) (cwV 1 hts (gqV mw_503 mw_504 mw_505 mw_428 mw_468) rfl rfl rfl hd_X4_winnerOf ⟨Nat.le_of_ble_eq_true rfl, Nat.le_of_ble_eq_true rfl⟩) hK hP q_T_bl (fun _ _ _ => trivial) [0, 1] rfl rfl rfl rfl hl.1 rfl (Nat.le_of_ble_eq_true rfl) dX4_fights_32 ⟨Nat.zero_le _, Nat.zero_le _⟩ ?_
      refine lv_istore_n (lv' := [(3, .int x7), (2, .int ((48 : Int32) + ((8 : Int32) * a1))), (0, .ref o), (1, .int a1)]) hx hb dX4_fights_35 rfl hl (by decide) rfl (fun ls hl => ?_)
      refine lv_aload_n hx hb dX4_fights_36 rfl (lv_at hl 2 rfl) ?_
      refine va_get (D := D) (v := .ref a) (C := RX4) (T := TX4) (N := 10) hx hb hts iw_X4 hown hK hP 0 rfl rfl 0 (by decide) (hts _ mw_414) (fun _ h9 => h9) hfs dX4_fights_37 ?_
      refine lv_iload_n hx hb dX4_fights_40 rfl (lv_at hl 1 rfl) ?_
      obtain ⟨x9, h10, h⟩ := bE h
      refine x_iald (cA := cI) hx hb hK hP 1 0 rfl rfl h10 dX4_fights_41 ?_
      refine lv_aload_n hx hb dX4_fights_42 rfl (lv_at hl 2 rfl) ?_
      refine va_get (D := D) (v := .ref a) (C := RX4) (T := TX4) (N := 10) hx hb hts iw_X4 hown hK hP 0 rfl rfl 0 (by decide) (hts _ mw_414) (fun _ h9 => h9) hfs dX4_fights_43 ?_
      refine lv_iload_n hx hb dX4_fights_46 rfl (lv_at hl 1 rfl) ?_
      refine lv_iconst (v := 1) hx hb dX4_fights_47 (by decide) ?_
      refine lv_iadd hx hb dX4_fights_48 ?_
      obtain ⟨x11, h12, h⟩ := bE h
      refine x_iald (cA := cI) hx hb hK hP 1 0 rfl rfl h12 dX4_fights_49 ?_
      refine lv_iadd hx hb dX4_fights_50 ?_
      refine lv_iload_n hx hb dX4_fights_51 rfl (lv_at hl 0 rfl) ?_
      refine lv_isub hx hb dX4_fights_52 ?_
      refine lv_istore (lv' := [(4, .int ((x9 + x11) - x7)), (3, .int x7), (2, .int ((48 : Int32) + ((8 : Int32) * a1))), (0, .ref o), (1, .int a1)]) hx hb dX4_fights_53 hl (by decide) rfl (fun ls hl => ?_)
      refine lv_aload_n hx hb dX4_fights_55 rfl (lv_at hl 3 rfl) ?_
      refine va_get (D := D) (v := .ref a) (C := RX4) (T := TX4) (N := 10) hx hb hts iw_X4 hown hK hP 0 rfl rfl 0 (by decide) (hts _ mw_414) (fun _ h9 => h9) hfs dX4_fights_56 ?_
      refine lv_iload_n hx hb dX4_fights_59 rfl (lv_at hl 2 rfl) ?_
      refine lv_iconst (v := 4) hx hb dX4_fights_60 (by decide) ?_
      refine lv_iadd hx hb dX4_fights_61 ?_
      refine lv_iconst (v := 2) hx hb dX4_fights_62 (by decide) ?_
      obtain ⟨g13, h14, h⟩ := bE h
      refine x_iast (cA := cI) hx hb hK hP hD hS 1 0 rfl rfl h14 dX4_fights_63 (fun H locs hP hD hS => ?_)
      have hP : va_P D vwCl (wS cI o fs a g13) H := hP
      have hD : va_D (va_A (wS cI o fs a u) s.heap.size) (wS cI o fs a g13) := hD
      refine lv_aload_n hx hb dX4_fights_64 rfl (lv_at hl 3 rfl) ?_
      refine va_get (D := D) (v := .ref a) (C := RX4) (T := TX4) (N := 10) hx hb hts iw_X4 hown hK hP 0 rfl rfl 0 (by decide) (hts _ mw_414) (fun _ h9 => h9) hfs dX4_fights_65 ?_
      refine lv_iload_n hx hb dX4_fights_68 rfl (lv_at hl 2 rfl) ?_
      refine lv_bipush (v := 6) hx hb dX4_fights_69 (by decide) ?_
      refine lv_iadd hx hb dX4_fights_71 ?_
      refine lv_iload_n hx hb dX4_fights_72 rfl (lv_at hl 1 rfl) ?_
      obtain ⟨g15, h16, h⟩ := bE h
      refine x_iast (cA := cI) hx hb hK hP hD hS 1 0 rfl rfl h16 dX4_fights_73 (fun H locs hP hD hS => ?_)
      have hP : va_P D vwCl (wS cI o fs a g15) H := hP
      have hD : va_D (va_A (wS cI o fs a u) s.heap.size) (wS cI o fs a g15) := hD
      refine lv_aload_n hx hb dX4_fights_74 rfl (lv_at hl 3 rfl) ?_
      refine lv_iload_n hx hb dX4_fights_75 rfl (lv_at hl 1 rfl) ?_
      refine lv_iconst (v := 0) hx hb dX4_fights_76 (by decide) ?_
      refine lv_iconst (v := 1) hx hb dX4_fights_77 (by decide) ?_
      obtain ⟨x17, h18, h⟩ := bE h
      refine x_VV (As := [.int x7, .int (0 : Int32), .int (1 : Int32)]) (rest := []) (wr := []) (W1 := wS cI o fs a x17) hF (c_X4_change l D cI cZ cT _ o fs a hfs g15 x7 (0 : Int32) (1 : Int32) x17 h18) (cwV 3 hts (gqV mw_494 mw_495 mw_496 mw_428 mw_473) rfl rfl rfl hd_X4_change ⟨Nat.le_of_ble_eq_true rfl, Nat.le_of_ble_eq_true rfl⟩) hK hP hD hS hA q_T_bl (fun _ _ _ => trivial) [0, 1] [] [0, 1] rfl rfl ⟨rfl, rfl, rfl, rfl⟩ rfl rfl rfl rfl hl.1 rfl (Nat.le_of_ble_eq_true rfl) dX4_fights_78 ⟨Nat.zero_le _, Nat.zero_le _⟩ (fun H locs hP hD hS => ?_)
      refine lv_aload_n hx hb dX4_fights_81 rfl (lv_at hl 3 rfl) ?_
      refine lv_iload hx hb dX4_fights_82 (lv_at hl 0 rfl) ?_
      refine lv_iconst (v := 0) hx hb dX4_fights_84 (by decide) ?_
      refine lv_bipush (v := (-2)) hx hb dX4_fights_85 (by decide) ?_
      obtain ⟨x19, h20, h⟩ := bE h
      refine x_VV (As := [.int ((x9 + x11) - x7), .int (0 : Int32), .int (-2 : Int32)]) (rest := []) (wr := []) (W1 := wS cI o fs a x19) hF (c_X4_change l D cI cZ cT _ o fs a hfs x17 ((x9 + x11) - x7) (0 : Int32) (-2 : Int32) x19 h20) (cwV 3 hts (gqV mw_494 mw_495 mw_496 mw_428 mw_473) rfl rfl rfl hd_X4_change ⟨Nat.le_of_ble_eq_true rfl, Nat.le_of_ble_eq_true rfl⟩) hK hP hD hS hA q_T_bl (fun _ _ _ => trivial) [0, 1] [] [0, 1] rfl rfl ⟨rfl, rfl, rfl, rfl⟩ rfl rfl rfl rfl hl.1 rfl (Nat.le_of_ble_eq_true rfl) dX4_fights_87 ⟨Nat.zero_le _, Nat.zero_le _⟩ (fun H locs hP hD hS => ?_)
      refine lv_aload_n hx hb dX4_fights_90 rfl (lv_at hl 3 rfl) ?_
      refine lv_iload_n hx hb dX4_fights_91 rfl (lv_at hl 1 rfl) ?_
      obtain ⟨x21, h22, h⟩ := bE h
      refine x_VV (As := [.int x7]) (rest := []) (wr := []) (W1 := wS cI o fs a x21) hF (c_X4_oath l D cI cZ cT _ o fs a hfs x19 x7 x21 h22) (cwV 1 hts (gqV mw_506 mw_507 mw_508 mw_428 mw_474) rfl rfl rfl hd_X4_oath ⟨Nat.le_of_ble_eq_true rfl, Nat.le_of_ble_eq_true rfl⟩) hK hP hD hS hA q_T_bl (fun _ _ _ => trivial) [0, 1] [] [0, 1] rfl rfl ⟨rfl, rfl, rfl, rfl⟩ rfl rfl rfl rfl hl.1 rfl (Nat.le_of_ble_eq_true rfl) dX4_fights_92 ⟨Nat.zero_le _, Nat.zero_le _⟩ (fun H locs hP hD hS => ?_)
      refine lv_aload_n hx hb dX4_fights_95 rfl (lv_at hl 3 rfl) ?_
      refine lv_iload hx hb dX4_fights_96 (lv_at hl 0 rfl) ?_
      obtain ⟨x23, h24, h⟩ := bE h
      refine x_VV (As := [.int ((x9 + x11) - x7)]) (rest := []) (wr := []) (W1 := wS cI o fs a x23) hF (c_X4_oath l D cI cZ cT _ o fs a hfs x21 ((x9 + x11) - x7) x23 h24) (cwV 1 hts (gqV mw_506 mw_507 mw_508 mw_428 mw_474) rfl rfl rfl hd_X4_oath ⟨Nat.le_of_ble_eq_true rfl, Nat.le_of_ble_eq_true rfl⟩) hK hP hD hS hA q_T_bl (fun _ _ _ => trivial) [0, 1] [] [0, 1] rfl rfl ⟨rfl, rfl, rfl, rfl⟩ rfl rfl rfl rfl hl.1 rfl (Nat.le_of_ble_eq_true rfl) dX4_fights_98 ⟨Nat.zero_le _, Nat.zero_le _⟩ (fun H locs hP hD hS => ?_)
      refine lv_aload_n hx hb dX4_fights_101 rfl (lv_at hl 3 rfl) ?_
      refine lv_iconst (v := 2) hx hb dX4_fights_102 (by decide) ?_
      refine lv_iload_n hx hb dX4_fights_103 rfl (lv_at hl 4 rfl) ?_
      obtain ⟨x25, h26, h⟩ := bE h
      refine x_VV (As := [.int (2 : Int32), .int a1]) (rest := []) (wr := []) (W1 := wS cI o fs a x25) hF (c_X4_tell l D cI cZ cT _ o fs a hfs x23 (2 : Int32) a1 x25 h26) (cwV 2 hts (gqV mw_488 mw_489 mw_490 mw_428 mw_472) rfl rfl rfl hd_X4_tell ⟨Nat.le_of_ble_eq_true rfl, Nat.le_of_ble_eq_true rfl⟩) hK hP hD hS hA q_T_bl (fun _ _ _ => trivial) [0, 1] [] [0, 1] rfl rfl ⟨rfl, rfl, rfl, rfl⟩ rfl rfl rfl rfl hl.1 rfl (Nat.le_of_ble_eq_true rfl) dX4_fights_104 ⟨Nat.zero_le _, Nat.zero_le _⟩ (fun H locs hP hD hS => ?_)
      refine lv_iload_n hx hb dX4_fights_107 rfl (lv_at hl 1 rfl) ?_
      cases h
      exact x_retM C0 rfl hP hD hS dX4_fights_108
    · have h := xf c6 h
      refine lv_bipush (v := (-5)) hx hb dX4_fights_19 (by decide) ?_
      cases h
      exact x_retM C0 rfl hP hD hS dX4_fights_21
  · have h := xt c3 h
    refine lv_iconst (v := (-1)) hx hb dX4_fights_8 (by decide) ?_
    cases h
    exact x_retM C0 rfl hP hD hS dX4_fights_9

/-! QuarrelWaysModel.swears (I)I -/
def f_X4_swears (u : Nat → Int32) (a1 : Int32) : Option (Int32 × (Nat → Int32)) := ((f_X4_isPerson u a1).bind fun x1 => (if x1 = 0 then some ((-1 : Int32), u) else ((f_X4_isUnderOath u a1 (0 : Int32)).bind fun x4 => (if x4 = 0 then ((f_X4_oath u a1).bind fun x7 => ((f_X4_tell x7 (3 : Int32) a1).bind fun x9 => ((f_X4_person0 x9 a1 (3 : Int32)).bind fun x11 => some (x11, x9)))) else some ((-5 : Int32), u)))))
abbrev rm_X4_swears : Room := { frames := 2, cells := 0, slots := 0, locals := 44 }
theorem hd_X4_swears : yX4_swears.cls = RX4 ∧ yX4_swears.cls ≠ "java/lang/invoke/MethodHandle" ∧ yX4_swears.cls ≠ "java/lang/invoke/VarHandle" ∧ (parseMethodDescriptor yX4_swears.desc).map (fun d => d.parameters.length) = some 1 := by decide +kernel
set_option maxHeartbeats 4000000 in
set_option maxRecDepth 100000 in
theorem c_X4_swears (l : Launch) (D : va_G) (cI cZ cT : ClassId) (sz : Nat) (o : Nat) (fs : List Value) (a : Nat) (hfs : fs[0]? = some (.ref a)) (u : Nat → Int32) (a1 : Int32) (r : Int32 × (Nat → Int32)) (h : f_X4_swears u a1 = some r) : Met l yX4_swears (wq yX4_swears cX4_swears 2 (some .int)) rm_X4_swears (q_M D (q_tys cI cZ cT) sz (wS cI o fs a u) q_T [.ref o, .int a1]) (va_Qi (fun r' _ => r' = r.1) (q_B D (wS cI o fs a u) sz (wS cI o fs a r.2)) (va_A (wS cI o fs a u) sz)) 0 0 (va_A (wS cI o fs a u) sz) := by
  refine q_MI (cc := cX4_swears) (maxL := 2) (ret := (some .int)) (E := fun sz => q_T) (Qc := fun sz => (va_Qi (fun r' _ => r' = r.1) (q_B D (wS cI o fs a u) sz (wS cI o fs a r.2)) (va_A (wS cI o fs a u) sz))) (free := fun sz => va_A (wS cI o fs a u) sz) (plainFor_of_name (by decide)) (Nat.le_of_ble_eq_true rfl) (fun p e s m below meth c C0 hname hP hK hD hE ls hl => ?_)
  have hA : ∀ q, s.heap.size ≤ q → (va_A (wS cI o fs a u) s.heap.size) q := fun _ => Or.inr
  have hS : va_S (va_A (wS cI o fs a u) s.heap.size) s.heap s.heap [] := va_S.rf
  have hl : lv_has ls 2 [(0, .ref o), (1, .int a1)] := hl
  obtain ⟨hx, hb, hr, hml, hown, hts, hlocks⟩ := id C0
  have hF : CallFix p m c cX4_swears 2 s _ BW RX4 := ⟨hx, hb, hml, hown, hts⟩
  rw [f_X4_swears] at h
  refine lv_aload_n hx hb dX4_swears_0 rfl (lv_at hl 0 rfl) ?_
  refine lv_iload_n hx hb dX4_swears_1 rfl (lv_at hl 1 rfl) ?_
  obtain ⟨x1, h2, h⟩ := bE h
  refine x_RV (As := [.int a1]) (rest := []) hF (c_X4_isPerson l D cI cZ cT o fs a hfs u a1 x1 h2) (cwV 1 hts (gqV mw_483 mw_484 mw_485 mw_428 mw_425) rfl rfl rfl hd_X4_isPerson ⟨Nat.le_of_ble_eq_true rfl, Nat.le_of_ble_eq_true rfl⟩) hK hP q_T_bl (fun _ _ _ => trivial) [0, 1] rfl rfl rfl rfl hl.1 rfl (Nat.le_of_ble_eq_true rfl) dX4_swears_2 ⟨Nat.zero_le _, Nat.zero_le _⟩ ?_
  refine lv_if_ne (tgt := 10) hx hb dX4_swears_5 (by decide) (fun c3 => ?_) (fun c3 => ?_)
  · have h := xf c3 h
    refine lv_aload_n hx hb dX4_swears_10 rfl (lv_at hl 0 rfl) ?_
    refine lv_iload_n hx hb dX4_swears_11 rfl (lv_at hl 1 rfl) ?_
    refine lv_iconst (v := 0) hx hb dX4_swears_12 (by decide) ?_
    obtain ⟨x4, h5, h⟩ := bE h
    refine x_RV (As := [.int a1, .int (0 : Int32)]) (rest := []) hF (c_X4_isUnderOath l D cI cZ cT o fs a hfs u a1 (0 : Int32) x4 h5) (cwV 2 hts (gqV mw_448 mw_449 mw_450 mw_428 mw_432) rfl rfl rfl hd_X4_isUnderOath ⟨Nat.le_of_ble_eq_true rfl, Nat.le_of_ble_eq_true rfl⟩) hK hP q_T_bl (fun _ _ _ => trivial) [0, 1] rfl rfl rfl rfl hl.1 rfl (Nat.le_of_ble_eq_true rfl) dX4_swears_13 ⟨Nat.zero_le _, Nat.zero_le _⟩ ?_
    refine lv_if_eq (tgt := 22) hx hb dX4_swears_16 (by decide) (fun c6 => ?_) (fun c6 => ?_)
    · have h := xt c6 h
      refine lv_aload_n hx hb dX4_swears_22 rfl (lv_at hl 0 rfl) ?_
      refine lv_iload_n hx hb dX4_swears_23 rfl (lv_at hl 1 rfl) ?_
      obtain ⟨x7, h8, h⟩ := bE h
      refine x_VV (As := [.int a1]) (rest := []) (wr := []) (W1 := wS cI o fs a x7) hF (c_X4_oath l D cI cZ cT _ o fs a hfs u a1 x7 h8) (cwV 1 hts (gqV mw_506 mw_507 mw_508 mw_428 mw_474) rfl rfl rfl hd_X4_oath ⟨Nat.le_of_ble_eq_true rfl, Nat.le_of_ble_eq_true rfl⟩) hK hP hD hS hA q_T_bl (fun _ _ _ => trivial) [0, 1] [] [0, 1] rfl rfl ⟨rfl, rfl, rfl, rfl⟩ rfl rfl rfl rfl hl.1 rfl (Nat.le_of_ble_eq_true rfl) dX4_swears_24 ⟨Nat.zero_le _, Nat.zero_le _⟩ (fun H locs hP hD hS => ?_)
      refine lv_aload_n hx hb dX4_swears_27 rfl (lv_at hl 0 rfl) ?_
      refine lv_iconst (v := 3) hx hb dX4_swears_28 (by decide) ?_
      refine lv_iload_n hx hb dX4_swears_29 rfl (lv_at hl 1 rfl) ?_
      obtain ⟨x9, h10, h⟩ := bE h
      refine x_VV (As := [.int (3 : Int32), .int a1]) (rest := []) (wr := []) (W1 := wS cI o fs a x9) hF (c_X4_tell l D cI cZ cT _ o fs a hfs x7 (3 : Int32) a1 x9 h10) (cwV 2 hts (gqV mw_488 mw_489 mw_490 mw_428 mw_472) rfl rfl rfl hd_X4_tell ⟨Nat.le_of_ble_eq_true rfl, Nat.le_of_ble_eq_true rfl⟩) hK hP hD hS hA q_T_bl (fun _ _ _ => trivial) [0, 1] [] [0, 1] rfl rfl ⟨rfl, rfl, rfl, rfl⟩ rfl rfl rfl rfl hl.1 rfl (Nat.le_of_ble_eq_true rfl) dX4_swears_30 ⟨Nat.zero_le _, Nat.zero_le _⟩ (fun H locs hP hD hS => ?_)
      refine lv_aload_n hx hb dX4_swears_33 rfl (lv_at hl 0 rfl) ?_
      refine lv_iload_n hx hb dX4_swears_34 rfl (lv_at hl 1 rfl) ?_
      refine lv_iconst (v := 3) hx hb dX4_swears_35 (by decide) ?_
      obtain ⟨x11, h12, h⟩ := bE h
      refine x_RV (As := [.int a1, .int (3 : Int32)]) (rest := []) hF (c_X4_person0 l D cI cZ cT o fs a hfs x9 a1 (3 : Int32) x11 h12) (cwV 2 hts (gqV mw_433 mw_434 mw_435 mw_428 mw_430) rfl rfl rfl hd_X4_person0 ⟨Nat.le_of_ble_eq_true rfl, Nat.le_of_ble_eq_true rfl⟩) hK hP q_T_bl (fun _ _ _ => trivial) [0, 1] rfl rfl rfl rfl hl.1 rfl (Nat.le_of_ble_eq_true rfl) dX4_swears_36 ⟨Nat.zero_le _, Nat.zero_le _⟩ ?_
      cases h
      exact x_retM C0 rfl hP hD hS dX4_swears_39
    · have h := xf c6 h
      refine lv_bipush (v := (-5)) hx hb dX4_swears_19 (by decide) ?_
      cases h
      exact x_retM C0 rfl hP hD hS dX4_swears_21
  · have h := xt c3 h
    refine lv_iconst (v := (-1)) hx hb dX4_swears_8 (by decide) ?_
    cases h
    exact x_retM C0 rfl hP hD hS dX4_swears_9

/-! QuarrelWaysModel.passes (I)I -/
def f_X4_passes (u : Nat → Int32) (a1 : Int32) : Option (Int32 × (Nat → Int32)) := ((f_X4_in a1 (1 : Int32) (99 : Int32)).bind fun x1 => (if x1 = 0 then some ((-2 : Int32), u) else ((rd u 181 (4 : Int32)).bind fun x4 => (if (x4 + a1) ≤ (9999 : Int32) then ((rd u 181 (4 : Int32)).bind fun x7 => ((wr u 181 (4 : Int32) (x7 + a1)).bind fun g9 => ((f_X4_due g9).bind fun x11 => ((f_X4_size x11).bind fun x13 => some (x13, g9))))) else some ((-5 : Int32), u)))))
abbrev rm_X4_passes : Room := { frames := 7, cells := 0, slots := 0, locals := 167 }
theorem hd_X4_passes : yX4_passes.cls = RX4 ∧ yX4_passes.cls ≠ "java/lang/invoke/MethodHandle" ∧ yX4_passes.cls ≠ "java/lang/invoke/VarHandle" ∧ (parseMethodDescriptor yX4_passes.desc).map (fun d => d.parameters.length) = some 1 := by decide +kernel
set_option maxHeartbeats 4000000 in
set_option maxRecDepth 100000 in
theorem c_X4_passes (l : Launch) (D : va_G) (cI cZ cT : ClassId) (sz : Nat) (o : Nat) (fs : List Value) (a : Nat) (hfs : fs[0]? = some (.ref a)) (u : Nat → Int32) (a1 : Int32) (r : Int32 × (Nat → Int32)) (h : f_X4_passes u a1 = some r) : Met l yX4_passes (wq yX4_passes cX4_passes 2 (some .int)) rm_X4_passes (q_M D (q_tys cI cZ cT) sz (wS cI o fs a u) q_T [.ref o, .int a1]) (va_Qi (fun r' _ => r' = r.1) (q_B D (wS cI o fs a u) sz (wS cI o fs a r.2)) (va_A (wS cI o fs a u) sz)) 0 0 (va_A (wS cI o fs a u) sz) := by
  refine q_MI (cc := cX4_passes) (maxL := 2) (ret := (some .int)) (E := fun sz => q_T) (Qc := fun sz => (va_Qi (fun r' _ => r' = r.1) (q_B D (wS cI o fs a u) sz (wS cI o fs a r.2)) (va_A (wS cI o fs a u) sz))) (free := fun sz => va_A (wS cI o fs a u) sz) (plainFor_of_name (by decide)) (Nat.le_of_ble_eq_true rfl) (fun p e s m below meth c C0 hname hP hK hD hE ls hl => ?_)
  have hA : ∀ q, s.heap.size ≤ q → (va_A (wS cI o fs a u) s.heap.size) q := fun _ => Or.inr
  have hS : va_S (va_A (wS cI o fs a u) s.heap.size) s.heap s.heap [] := va_S.rf
  have hl : lv_has ls 2 [(0, .ref o), (1, .int a1)] := hl
  obtain ⟨hx, hb, hr, hml, hown, hts, hlocks⟩ := id C0
  have hF : CallFix p m c cX4_passes 2 s _ BW RX4 := ⟨hx, hb, hml, hown, hts⟩
  rw [f_X4_passes] at h
  refine lv_iload_n hx hb dX4_passes_0 rfl (lv_at hl 1 rfl) ?_
  refine lv_iconst (v := 1) hx hb dX4_passes_1 (by decide) ?_
  refine lv_bipush (v := 99) hx hb dX4_passes_2 (by decide) ?_
  obtain ⟨x1, h2, h⟩ := bE h
  refine x_RS (As := [.int a1, .int (1 : Int32), .int (99 : Int32)]) (rest := []) hF (c_X4_in l D cI cZ cT  a1 (1 : Int32) (99 : Int32) x1 h2) (va_cwS 3 hts (gqS mw_426 mw_427 mw_428 mw_421) rfl rfl rfl hd_X4_in.2 ⟨Nat.le_of_ble_eq_true rfl, Nat.le_of_ble_eq_true rfl⟩) hK hP q_T_bl (fun _ _ _ => trivial) [] rfl rfl hl.1 rfl (Nat.le_of_ble_eq_true rfl) dX4_passes_4 ⟨Nat.zero_le _, Nat.zero_le _⟩ ?_
  refine lv_if_ne (tgt := 13) hx hb dX4_passes_7 (by decide) (fun c3 => ?_) (fun c3 => ?_)
  · have h := xf c3 h
    refine lv_aload_n hx hb dX4_passes_13 rfl (lv_at hl 0 rfl) ?_
    refine va_get (D := D) (v := .ref a) (C := RX4) (T := TX4) (N := 10) hx hb hts iw_X4 hown hK hP 0 rfl rfl 0 (by decide) (hts _ mw_414) (fun _ h9 => h9) hfs dX4_passes_14 ?_
    refine lv_iconst (v := 4) hx hb dX4_passes_17 (by decide) ?_
    obtain ⟨x4, h5, h⟩ := bE h
    refine x_iald (cA := cI) hx hb hK hP 1 0 rfl rfl h5 dX4_passes_18 ?_
    refine lv_iload_n hx hb dX4_passes_19 rfl (lv_at hl 1 rfl) ?_
    refine lv_iadd hx hb dX4_passes_20 ?_
    refine lv_sipush (v := 9999) hx hb dX4_passes_21 (by decide) ?_
    refine lv_icmp_le (tgt := 30) hx hb dX4_passes_24 (by decide) (fun c6 => ?_) (fun c6 => ?_)
    · have h := xt c6 h
      refine lv_aload_n hx hb dX4_passes_30 rfl (lv_at hl 0 rfl) ?_
      refine va_get (D := D) (v := .ref a) (C := RX4) (T := TX4) (N := 10) hx hb hts iw_X4 hown hK hP 0 rfl rfl 0 (by decide) (hts _ mw_414) (fun _ h9 => h9) hfs dX4_passes_31 ?_
      refine lv_iconst (v := 4) hx hb dX4_passes_34 (by decide) ?_
      refine lv_dup2_11 hx hb dX4_passes_35 rfl rfl ?_
      obtain ⟨x7, h8, h⟩ := bE h
      refine x_iald (cA := cI) hx hb hK hP 1 0 rfl rfl h8 dX4_passes_36 ?_
      refine lv_iload_n hx hb dX4_passes_37 rfl (lv_at hl 1 rfl) ?_
      refine lv_iadd hx hb dX4_passes_38 ?_
      obtain ⟨g9, h10, h⟩ := bE h
      refine x_iast (cA := cI) hx hb hK hP hD hS 1 0 rfl rfl h10 dX4_passes_39 (fun H locs hP hD hS => ?_)
      have hP : va_P D vwCl (wS cI o fs a g9) H := hP
      have hD : va_D (va_A (wS cI o fs a u) s.heap.size) (wS cI o fs a g9) := hD
      refine lv_aload_n hx hb dX4_passes_40 rfl (lv_at hl 0 rfl) ?_
      obtain ⟨x11, h12, h⟩ := bE h
      refine x_RV (As := []) (rest := []) hF (c_X4_due l D cI cZ cT o fs a hfs g9  x11 h12) (cwV 0 hts (gqV mw_511 mw_512 mw_513 mw_428 mw_480) rfl rfl rfl hd_X4_due ⟨Nat.le_of_ble_eq_true rfl, Nat.le_of_ble_eq_true rfl⟩) hK hP q_T_bl (fun _ _ _ => trivial) [0, 1] rfl rfl rfl rfl hl.1 rfl (Nat.le_of_ble_eq_true rfl) dX4_passes_41 ⟨Nat.zero_le _, Nat.zero_le _⟩ ?_
      obtain ⟨x13, h14, h⟩ := bE h
      refine x_RS (As := [.int x11]) (rest := []) hF (c_X4_size l D cI cZ cT  x11 x13 h14) (va_cwS 1 hts (gqS mw_500 mw_501 mw_428 mw_476) rfl rfl rfl hd_X4_size.2 ⟨Nat.le_of_ble_eq_true rfl, Nat.le_of_ble_eq_true rfl⟩) hK hP q_T_bl (fun _ _ _ => trivial) [] rfl rfl hl.1 rfl (Nat.le_of_ble_eq_true rfl) dX4_passes_44 ⟨Nat.zero_le _, Nat.zero_le _⟩ ?_
      cases h
      exact x_retM C0 rfl hP hD hS dX4_passes_47
    · have h := xf c6 h
      refine lv_bipush (v := (-5)) hx hb dX4_passes_27 (by decide) ?_
      cases h
      exact x_retM C0 rfl hP hD hS dX4_passes_29
  · have h := xt c3 h
    refine lv_bipush (v := (-2)) hx hb dX4_passes_10 (by decide) ?_
    cases h
    exact x_retM C0 rfl hP hD hS dX4_passes_12

end G_MC

section G_MB
variable {p : Program} {l : Launch} {e : Env} {s : State} {m : MethodId} {args : Array Value} {below : List Frame} {meth : Method} {c : Code} {D : va_G} {cI cZ cT : ClassId}

/-! QuarrelWaysModel.quarrelsThat (I)I -/
def f_X4_quarrelsThat_L4 (z0 : Nat → Int32) (y1 : Int32) : Nat → Int32 → Int32 → Option (Int32)
  | 0, _, _ => none
  | n + 1, y2, y3 => ((rd z0 181 (47 : Int32)).bind fun x1 => (if x1 ≤ y3 then some y2 else ((f_X4_quarrel0 z0 y3 (4 : Int32)).bind fun x4 => (((if x4 = y1 then some ((1 : Int32) <<< (y3 &&& 31)) else some (0 : Int32)) : Option (Int32)).bind fun v6 => f_X4_quarrelsThat_L4 z0 y1 n (y2 ||| v6) (y3 + (1 : Int32))))))
def f_X4_quarrelsThat (u : Nat → Int32) (a1 : Int32) : Option (Int32) := ((f_X4_quarrelsThat_L4 u a1 2000 (0 : Int32) (0 : Int32)).bind fun v8 => some v8)
abbrev rm_X4_quarrelsThat : Room := { frames := 1, cells := 0, slots := 0, locals := 22 }
theorem hd_X4_quarrelsThat : yX4_quarrelsThat.cls = RX4 ∧ yX4_quarrelsThat.cls ≠ "java/lang/invoke/MethodHandle" ∧ yX4_quarrelsThat.cls ≠ "java/lang/invoke/VarHandle" ∧ (parseMethodDescriptor yX4_quarrelsThat.desc).map (fun d => d.parameters.length) = some 1 := by decide +kernel
set_option maxHeartbeats 4000000 in
set_option maxRecDepth 100000 in
theorem k_X4_quarrelsThat_L4 {Q : State → Prop} {v : Int32} (o : Nat) (fs : List Value) (a : Nat) (hfs : fs[0]? = some (.ref a)) (z0 : Nat → Int32) (y1 : Int32) (C0 : q_At p s m args meth c cX4_quarrelsThat 4 (some .int) RX4) (hK : va_K D vwCl (q_tys cI cZ cT) s) (hP : va_P D vwCl (wS cI o fs a z0) s.heap) (hj : ∀ (ls : Array Slot), lv_has ls 4 [(2, .int v)] → W p l e rm_X4_quarrelsThat s m args below meth c s.heap [] 0 0 Q (F0 m 41 ls [])) : ∀ (n : Nat) (y2 : Int32) (y3 : Int32) (ls : Array Slot), lv_has ls 4 [(0, .ref o), (1, .int y1), (2, .int y2), (3, .int y3)] → f_X4_quarrelsThat_L4 z0 y1 n y2 y3 = some v → W p l e rm_X4_quarrelsThat s m args below meth c s.heap [] 0 0 (Q) (F0 m 4 ls []) := by
  obtain ⟨hx, hb, hr, hml, hown, hts, hlocks⟩ := id C0
  have hF : CallFix p m c cX4_quarrelsThat 4 s args BW RX4 := ⟨hx, hb, hml, hown, hts⟩
  intro n
  induction n with
  | zero =>
    intro y2 y3 ls hl h
    rw [f_X4_quarrelsThat_L4] at h
    cases h
  | succ n ih =>
    intro y2 y3 ls hl h
    rw [f_X4_quarrelsThat_L4] at h
    refine lv_iload_n hx hb dX4_quarrelsThat_4 rfl (lv_at hl 3 rfl) ?_
    refine lv_aload_n hx hb dX4_quarrelsThat_5 rfl (lv_at hl 0 rfl) ?_
    refine va_get (D := D) (v := .ref a) (C := RX4) (T := TX4) (N := 10) hx hb hts iw_X4 hown hK hP 0 rfl rfl 0 (by decide) (hts _ mw_414) (fun _ h9 => h9) hfs dX4_quarrelsThat_6 ?_
    refine lv_bipush (v := 47) hx hb dX4_quarrelsThat_9 (by decide) ?_
    obtain ⟨x1, h2, h⟩ := bE h
    refine x_iald (cA := cI) hx hb hK hP 1 0 rfl rfl h2 dX4_quarrelsThat_11 ?_
    refine lv_icmp_ge (tgt := 41) hx hb dX4_quarrelsThat_12 (by decide) (fun c3 => ?_) (fun c3 => ?_)
    · have h := xt c3 h
      cases h
      exact hj _ (lv_sub hl [2] rfl)
    · have h := xf c3 h
      refine lv_iload_n hx hb dX4_quarrelsThat_15 rfl (lv_at hl 2 rfl) ?_
      refine lv_aload_n hx hb dX4_quarrelsThat_16 rfl (lv_at hl 0 rfl) ?_
      refine lv_iload_n hx hb dX4_quarrelsThat_17 rfl (lv_at hl 3 rfl) ?_
      refine lv_iconst (v := 4) hx hb dX4_quarrelsThat_18 (by decide) ?_
      obtain ⟨x4, h5, h⟩ := bE h
      refine x_RV (As := [.int y3, .int (4 : Int32)]) (rest := [.int y2]) hF (c_X4_quarrel0 l D cI cZ cT o fs a hfs z0 y3 (4 : Int32) x4 h5) (cwV 2 hts (gqV mw_437 mw_438 mw_439 mw_428 mw_431) rfl rfl rfl hd_X4_quarrel0 ⟨Nat.le_of_ble_eq_true rfl, Nat.le_of_ble_eq_true rfl⟩) hK hP q_T_bl (fun _ _ _ => trivial) [0, 1] rfl rfl rfl rfl hl.1 rfl (Nat.le_of_ble_eq_true rfl) dX4_quarrelsThat_19 ⟨Nat.zero_le _, Nat.zero_le _⟩ ?_
      refine lv_iload_n hx hb dX4_quarrelsThat_22 rfl (lv_at hl 1 rfl) ?_
      refine x_j (V := Int32) (nL := 4) (fun v6 => [(0, .ref o), (1, .int y1), (3, .int y3)]) 33 (fun v6 => [.int v6, .int y2]) h (fun v6 h ls hl => ?_) (fun v6 h hj => ?_)
      · refine lv_ior hx hb dX4_quarrelsThat_33 ?_
        refine lv_istore_n (lv' := [(2, .int (y2 ||| v6)), (0, .ref o), (1, .int y1), (3, .int y3)]) hx hb dX4_quarrelsThat_34 rfl hl (by decide) rfl (fun ls hl => ?_)
        refine lv_iinc (v := (y3 + (1 : Int32))) (lv' := [(3, .int (y3 + (1 : Int32))), (2, .int (y2 ||| v6)), (0, .ref o), (1, .int y1)]) hx hb dX4_quarrelsThat_35 hl (k := 3) rfl rfl (by decide) rfl (fun ls hl => ?_)
        refine lv_goto (tgt := 4) hx hb dX4_quarrelsThat_38 (by decide) ?_
        exact ih (y2 ||| v6) (y3 + (1 : Int32)) _ (lv_sub hl [2, 3, 1, 0] rfl) h
      · refine lv_icmp_ne (tgt := 32) hx hb dX4_quarrelsThat_23 (by decide) (fun c7 => ?_) (fun c7 => ?_)
        · have h := xf c7 h
          refine lv_iconst (v := 0) hx hb dX4_quarrelsThat_32 (by decide) ?_
          cases h
          exact hj _ (lv_sub hl [0, 1, 3] rfl)
        · have h := xt c7 h
          refine lv_iconst (v := 1) hx hb dX4_quarrelsThat_26 (by decide) ?_
          refine lv_iload_n hx hb dX4_quarrelsThat_27 rfl (lv_at hl 3 rfl) ?_
          refine lv_ishl hx hb dX4_quarrelsThat_28 ?_
          refine lv_goto (tgt := 33) hx hb dX4_quarrelsThat_29 (by decide) ?_
          cases h
          exact hj _ (lv_sub hl [0, 1, 3] rfl)
set_option maxHeartbeats 4000000 in
set_option maxRecDepth 100000 in
theorem c_X4_quarrelsThat (l : Launch) (D : va_G) (cI cZ cT : ClassId) (o : Nat) (fs : List Value) (a : Nat) (hfs : fs[0]? = some (.ref a)) (u : Nat → Int32) (a1 : Int32) (r : Int32) (h : f_X4_quarrelsThat u a1 = some r) : Met l yX4_quarrelsThat (wq yX4_quarrelsThat cX4_quarrelsThat 4 (some .int)) rm_X4_quarrelsThat (q_R D (q_tys cI cZ cT) (wS cI o fs a u) q_T [.ref o, .int a1]) (vp_Si (fun r' => r' = r)) 0 0 (fun _ => False) := by
  refine q_RI (cc := cX4_quarrelsThat) (maxL := 4) (ret := (some .int)) (plainFor_of_name (by decide)) (Nat.le_of_ble_eq_true rfl) (fun p e s m below meth c C0 hP hK hE ls hl => ?_)
  have hl : lv_has ls 4 [(0, .ref o), (1, .int a1)] := hl
  obtain ⟨hx, hb, hr, hml, hown, hts, hlocks⟩ := id C0
  have hF : CallFix p m c cX4_quarrelsThat 4 s _ BW RX4 := ⟨hx, hb, hml, hown, hts⟩
  rw [f_X4_quarrelsThat] at h
  refine lv_iconst (v := 0) hx hb dX4_quarrelsThat_0 (by decide) ?_
  refine lv_istore_n (lv' := [(2, .int (0 : Int32)), (0, .ref o), (1, .int a1)]) hx hb dX4_quarrelsThat_1 rfl hl (by decide) rfl (fun ls hl => ?_)
  refine lv_iconst (v := 0) hx hb dX4_quarrelsThat_2 (by decide) ?_
  refine lv_istore_n (lv' := [(3, .int (0 : Int32)), (2, .int (0 : Int32)), (0, .ref o), (1, .int a1)]) hx hb dX4_quarrelsThat_3 rfl hl (by decide) rfl (fun ls hl => ?_)
  obtain ⟨v8, h9, h⟩ := bE h
  refine k_X4_quarrelsThat_L4 (v := v8) o fs a hfs u a1 C0 hK hP (fun ls hl => ?_) 2000 (0 : Int32) (0 : Int32) _ (lv_sub hl [2, 3, 1, 0] rfl) h9
  refine lv_iload_n hx hb dX4_quarrelsThat_41 rfl (lv_at hl 0 rfl) ?_
  cases h
  exact x_retR C0 rfl dX4_quarrelsThat_42

/-! QuarrelWaysModel.due ()I -/
def f_X4_due_L4 (z0 : Nat → Int32) : Nat → Int32 → Int32 → Option (Int32)
  | 0, _, _ => none
  | n + 1, y1, y2 => ((rd z0 181 (47 : Int32)).bind fun x1 => (if x1 ≤ y2 then some y1 else ((f_X4_reason z0 y2 (0 : Int32)).bind fun x4 => (((if x4 = 0 then some ((1 : Int32) <<< (y2 &&& 31)) else some (0 : Int32)) : Option (Int32)).bind fun v6 => f_X4_due_L4 z0 n (y1 ||| v6) (y2 + (1 : Int32))))))
def f_X4_due (u : Nat → Int32) : Option (Int32) := ((f_X4_due_L4 u 2000 (0 : Int32) (0 : Int32)).bind fun v8 => some v8)
abbrev rm_X4_due : Room := { frames := 6, cells := 0, slots := 0, locals := 145 }
theorem hd_X4_due : yX4_due.cls = RX4 ∧ yX4_due.cls ≠ "java/lang/invoke/MethodHandle" ∧ yX4_due.cls ≠ "java/lang/invoke/VarHandle" ∧ (parseMethodDescriptor yX4_due.desc).map (fun d => d.parameters.length) = some 0 := by decide +kernel
set_option maxHeartbeats 4000000 in
set_option maxRecDepth 100000 in
theorem k_X4_due_L4 {Q : State → Prop} {v : Int32} (o : Nat) (fs : List Value) (a : Nat) (hfs : fs[0]? = some (.ref a)) (z0 : Nat → Int32) (C0 : q_At p s m args meth c cX4_due 3 (some .int) RX4) (hK : va_K D vwCl (q_tys cI cZ cT) s) (hP : va_P D vwCl (wS cI o fs a z0) s.heap) (hj : ∀ (ls : Array Slot), lv_has ls 3 [(1, .int v)] → W p l e rm_X4_due s m args below meth c s.heap [] 0 0 Q (F0 m 40 ls [])) : ∀ (n : Nat) (y1 : Int32) (y2 : Int32) (ls : Array Slot), lv_has ls 3 [(0, .ref o), (1, .int y1), (2, .int y2)] → f_X4_due_L4 z0 n y1 y2 = some v → W p l e rm_X4_due s m args below meth c s.heap [] 0 0 (Q) (F0 m 4 ls []) := by
  obtain ⟨hx, hb, hr, hml, hown, hts, hlocks⟩ := id C0
  have hF : CallFix p m c cX4_due 3 s args BW RX4 := ⟨hx, hb, hml, hown, hts⟩
  intro n
  induction n with
  | zero =>
    intro y1 y2 ls hl h
    rw [f_X4_due_L4] at h
    cases h
  | succ n ih =>
    intro y1 y2 ls hl h
    rw [f_X4_due_L4] at h
    refine lv_iload_n hx hb dX4_due_4 rfl (lv_at hl 2 rfl) ?_
    refine lv_aload_n hx hb dX4_due_5 rfl (lv_at hl 0 rfl) ?_
    refine va_get (D := D) (v := .ref a) (C := RX4) (T := TX4) (N := 10) hx hb hts iw_X4 hown hK hP 0 rfl rfl 0 (by decide) (hts _ mw_414) (fun _ h9 => h9) hfs dX4_due_6 ?_
    refine lv_bipush (v := 47) hx hb dX4_due_9 (by decide) ?_
    obtain ⟨x1, h2, h⟩ := bE h
    refine x_iald (cA := cI) hx hb hK hP 1 0 rfl rfl h2 dX4_due_11 ?_
    refine lv_icmp_ge (tgt := 40) hx hb dX4_due_12 (by decide) (fun c3 => ?_) (fun c3 => ?_)
    · have h := xt c3 h
      cases h
      exact hj _ (lv_sub hl [1] rfl)
    · have h := xf c3 h
      refine lv_iload_n hx hb dX4_due_15 rfl (lv_at hl 1 rfl) ?_
      refine lv_aload_n hx hb dX4_due_16 rfl (lv_at hl 0 rfl) ?_
      refine lv_iload_n hx hb dX4_due_17 rfl (lv_at hl 2 rfl) ?_
      refine lv_iconst (v := 0) hx hb dX4_due_18 (by decide) ?_
      obtain ⟨x4, h5, h⟩ := bE h
      refine x_RV (As := [.int y2, .int (0 : Int32)]) (rest := [.int y1]) hF (c_X4_reason l D cI cZ cT o fs a hfs z0 y2 (0 : Int32) x4 h5) (cwV 2 hts (gqV mw_477 mw_478 mw_479 mw_428 mw_466) rfl rfl rfl hd_X4_reason ⟨Nat.le_of_ble_eq_true rfl, Nat.le_of_ble_eq_true rfl⟩) hK hP q_T_bl (fun _ _ _ => trivial) [0, 1] rfl rfl rfl rfl hl.1 rfl (Nat.le_of_ble_eq_true rfl) dX4_due_19 ⟨Nat.zero_le _, Nat.zero_le _⟩ ?_
      refine x_j (V := Int32) (nL := 3) (fun v6 => [(0, .ref o), (2, .int y2)]) 32 (fun v6 => [.int v6, .int y1]) h (fun v6 h ls hl => ?_) (fun v6 h hj => ?_)
      · refine lv_ior hx hb dX4_due_32 ?_
        refine lv_istore_n (lv' := [(1, .int (y1 ||| v6)), (0, .ref o), (2, .int y2)]) hx hb dX4_due_33 rfl hl (by decide) rfl (fun ls hl => ?_)
        refine lv_iinc (v := (y2 + (1 : Int32))) (lv' := [(2, .int (y2 + (1 : Int32))), (1, .int (y1 ||| v6)), (0, .ref o)]) hx hb dX4_due_34 hl (k := 2) rfl rfl (by decide) rfl (fun ls hl => ?_)
        refine lv_goto (tgt := 4) hx hb dX4_due_37 (by decide) ?_
        exact ih (y1 ||| v6) (y2 + (1 : Int32)) _ (lv_sub hl [2, 1, 0] rfl) h
      · refine lv_if_ne (tgt := 31) hx hb dX4_due_22 (by decide) (fun c7 => ?_) (fun c7 => ?_)
        · have h := xf c7 h
          refine lv_iconst (v := 0) hx hb dX4_due_31 (by decide) ?_
          cases h
          exact hj _ (lv_sub hl [0, 2] rfl)
        · have h := xt c7 h
          refine lv_iconst (v := 1) hx hb dX4_due_25 (by decide) ?_
          refine lv_iload_n hx hb dX4_due_26 rfl (lv_at hl 2 rfl) ?_
          refine lv_ishl hx hb dX4_due_27 ?_
          refine lv_goto (tgt := 32) hx hb dX4_due_28 (by decide) ?_
          cases h
          exact hj _ (lv_sub hl [0, 2] rfl)
set_option maxHeartbeats 4000000 in
set_option maxRecDepth 100000 in
theorem c_X4_due (l : Launch) (D : va_G) (cI cZ cT : ClassId) (o : Nat) (fs : List Value) (a : Nat) (hfs : fs[0]? = some (.ref a)) (u : Nat → Int32) (r : Int32) (h : f_X4_due u = some r) : Met l yX4_due (wq yX4_due cX4_due 3 (some .int)) rm_X4_due (q_R D (q_tys cI cZ cT) (wS cI o fs a u) q_T [.ref o]) (vp_Si (fun r' => r' = r)) 0 0 (fun _ => False) := by
  refine q_RI (cc := cX4_due) (maxL := 3) (ret := (some .int)) (plainFor_of_name (by decide)) (Nat.le_of_ble_eq_true rfl) (fun p e s m below meth c C0 hP hK hE ls hl => ?_)
  have hl : lv_has ls 3 [(0, .ref o)] := hl
  obtain ⟨hx, hb, hr, hml, hown, hts, hlocks⟩ := id C0
  have hF : CallFix p m c cX4_due 3 s _ BW RX4 := ⟨hx, hb, hml, hown, hts⟩
  rw [f_X4_due] at h
  refine lv_iconst (v := 0) hx hb dX4_due_0 (by decide) ?_
  refine lv_istore_n (lv' := [(1, .int (0 : Int32)), (0, .ref o)]) hx hb dX4_due_1 rfl hl (by decide) rfl (fun ls hl => ?_)
  refine lv_iconst (v := 0) hx hb dX4_due_2 (by decide) ?_
  refine lv_istore_n (lv' := [(2, .int (0 : Int32)), (1, .int (0 : Int32)), (0, .ref o)]) hx hb dX4_due_3 rfl hl (by decide) rfl (fun ls hl => ?_)
  obtain ⟨v8, h9, h⟩ := bE h
  refine k_X4_due_L4 (v := v8) o fs a hfs u C0 hK hP (fun ls hl => ?_) 2000 (0 : Int32) (0 : Int32) _ (lv_sub hl [2, 1, 0] rfl) h9
  refine lv_iload_n hx hb dX4_due_40 rfl (lv_at hl 0 rfl) ?_
  cases h
  exact x_retR C0 rfl dX4_due_41

/-! QuarrelWaysModel.parts (II)I -/
def f_X4_parts_L5 (z0 : Nat → Int32) (y1 : Int32) (y2 : Int32) : Nat → Int32 → Int32 → Option (Int32)
  | 0, _, _ => none
  | n + 1, y3, y4 => ((rd z0 181 (47 : Int32)).bind fun x1 => (if x1 ≤ y4 then some y3 else ((f_X4_quarrel0 z0 y4 (0 : Int32)).bind fun x4 => (((if x4 = y1 then some (1 : Int32) else ((f_X4_quarrel0 z0 y4 (1 : Int32)).bind fun x27 => (if x27 = y1 then some (1 : Int32) else some (0 : Int32)))) : Option (Int32)).bind fun v6 => (((if y2 = (4 : Int32) then ((f_X4_quarrel0 z0 y4 (0 : Int32)).bind fun x23 => (if x23 = y1 then some (1 : Int32) else some (0 : Int32))) else (if y2 = (5 : Int32) then ((f_X4_quarrel0 z0 y4 (1 : Int32)).bind fun x20 => (if x20 = y1 then some (1 : Int32) else some (0 : Int32))) else (if y2 = (6 : Int32) then ((f_X4_quarrel0 z0 y4 (6 : Int32)).bind fun x17 => (if x17 = y1 then some (1 : Int32) else some (0 : Int32))) else (if v6 = 0 then some (0 : Int32) else ((f_X4_quarrel0 z0 y4 (4 : Int32)).bind fun x14 => (if x14 = (2 : Int32) then some (1 : Int32) else some (0 : Int32))))))) : Option (Int32)).bind fun v7 => (((if v7 = 0 then some (0 : Int32) else some (1 : Int32)) : Option (Int32)).bind fun v8 => f_X4_parts_L5 z0 y1 y2 n (y3 + v8) (y4 + (1 : Int32))))))))
def f_X4_parts (u : Nat → Int32) (a1 : Int32) (a2 : Int32) : Option (Int32) := ((f_X4_parts_L5 u a1 a2 2000 (0 : Int32) (0 : Int32)).bind fun v30 => some v30)
abbrev rm_X4_parts : Room := { frames := 1, cells := 0, slots := 0, locals := 22 }
theorem hd_X4_parts : yX4_parts.cls = RX4 ∧ yX4_parts.cls ≠ "java/lang/invoke/MethodHandle" ∧ yX4_parts.cls ≠ "java/lang/invoke/VarHandle" ∧ (parseMethodDescriptor yX4_parts.desc).map (fun d => d.parameters.length) = some 2 := by decide +kernel
set_option maxHeartbeats 4000000 in
set_option maxRecDepth 100000 in
theorem k_X4_parts_L5 {Q : State → Prop} {v : Int32} (o : Nat) (fs : List Value) (a : Nat) (hfs : fs[0]? = some (.ref a)) (z0 : Nat → Int32) (y1 : Int32) (y2 : Int32) (C0 : q_At p s m args meth c cX4_parts 7 (some .int) RX4) (hK : va_K D vwCl (q_tys cI cZ cT) s) (hP : va_P D vwCl (wS cI o fs a z0) s.heap) (hj : ∀ (ls : Array Slot), lv_has ls 7 [(3, .int v)] → W p l e rm_X4_parts s m args below meth c s.heap [] 0 0 Q (F0 m 162 ls [])) : ∀ (n : Nat) (y3 : Int32) (y4 : Int32) (ls : Array Slot), lv_has ls 7 [(0, .ref o), (1, .int y1), (2, .int y2), (3, .int y3), (4, .int y4)] → f_X4_parts_L5 z0 y1 y2 n y3 y4 = some v → W p l e rm_X4_parts s m args below meth c s.heap [] 0 0 (Q) (F0 m 5 ls []) := by
  obtain ⟨hx, hb, hr, hml, hown, hts, hlocks⟩ := id C0
  have hF : CallFix p m c cX4_parts 7 s args BW RX4 := ⟨hx, hb, hml, hown, hts⟩
  intro n
  induction n with
  | zero =>
    intro y3 y4 ls hl h
    rw [f_X4_parts_L5] at h
    cases h
  | succ n ih =>
    intro y3 y4 ls hl h
    rw [f_X4_parts_L5] at h
    refine lv_iload hx hb dX4_parts_5 (lv_at hl 4 rfl) ?_
    refine lv_aload_n hx hb dX4_parts_7 rfl (lv_at hl 0 rfl) ?_
    refine va_get (D := D) (v := .ref a) (C := RX4) (T := TX4) (N := 10) hx hb hts iw_X4 hown hK hP 0 rfl rfl 0 (by decide) (hts _ mw_414) (fun _ h9 => h9) hfs dX4_parts_8 ?_
    refine lv_bipush (v := 47) hx hb dX4_parts_11 (by decide) ?_
    obtain ⟨x1, h2, h⟩ := bE h
    refine x_iald (cA := cI) hx hb hK hP 1 0 rfl rfl h2 dX4_parts_13 ?_
    refine lv_icmp_ge (tgt := 162) hx hb dX4_parts_14 (by decide) (fun c3 => ?_) (fun c3 => ?_)
    · have h := xt c3 h
      cases h
      exact hj _ (lv_sub hl [3] rfl)
    · have h := xf c3 h
      refine lv_aload_n hx hb dX4_parts_17 rfl (lv_at hl 0 rfl) ?_
      refine lv_iload hx hb dX4_parts_18 (lv_at hl 4 rfl) ?_
      refine lv_iconst (v := 0) hx hb dX4_parts_20 (by decide) ?_
      obtain ⟨x4, h5, h⟩ := bE h
      refine x_RV (As := [.int y4, .int (0 : Int32)]) (rest := []) hF (c_X4_quarrel0 l D cI cZ cT o fs a hfs z0 y4 (0 : Int32) x4 h5) (cwV 2 hts (gqV mw_437 mw_438 mw_439 mw_428 mw_431) rfl rfl rfl hd_X4_quarrel0 ⟨Nat.le_of_ble_eq_true rfl, Nat.le_of_ble_eq_true rfl⟩) hK hP q_T_bl (fun _ _ _ => trivial) [0, 1] rfl rfl rfl rfl hl.1 rfl (Nat.le_of_ble_eq_true rfl) dX4_parts_21 ⟨Nat.zero_le _, Nat.zero_le _⟩ ?_
      refine lv_iload_n hx hb dX4_parts_24 rfl (lv_at hl 1 rfl) ?_
      refine x_j (V := Int32) (nL := 7) (fun v6 => [(0, .ref o), (1, .int y1), (2, .int y2), (3, .int y3), (4, .int y4)]) 44 (fun v6 => [.int v6]) h (fun v6 h ls hl => ?_) (fun v6 h hj => ?_)
      · refine lv_istore (lv' := [(5, .int v6), (0, .ref o), (1, .int y1), (2, .int y2), (3, .int y3), (4, .int y4)]) hx hb dX4_parts_44 hl (by decide) rfl (fun ls hl => ?_)
        refine lv_iload_n hx hb dX4_parts_46 rfl (lv_at hl 3 rfl) ?_
        refine lv_iconst (v := 4) hx hb dX4_parts_47 (by decide) ?_
        refine x_j (V := Int32) (nL := 7) (fun v7 => [(0, .ref o), (1, .int y1), (2, .int y2), (3, .int y3), (4, .int y4)]) 141 (fun v7 => [.int v7]) h (fun v7 h ls hl => ?_) (fun v7 h hj => ?_)
        · refine lv_istore (lv' := [(6, .int v7), (0, .ref o), (1, .int y1), (2, .int y2), (3, .int y3), (4, .int y4)]) hx hb dX4_parts_141 hl (by decide) rfl (fun ls hl => ?_)
          refine lv_iload_n hx hb dX4_parts_143 rfl (lv_at hl 4 rfl) ?_
          refine lv_iload hx hb dX4_parts_144 (lv_at hl 0 rfl) ?_
          refine x_j (V := Int32) (nL := 7) (fun v8 => [(0, .ref o), (1, .int y1), (2, .int y2), (4, .int y4)]) 154 (fun v8 => [.int v8, .int y3]) h (fun v8 h ls hl => ?_) (fun v8 h hj => ?_)
          · refine lv_iadd hx hb dX4_parts_154 ?_
            refine lv_istore_n (lv' := [(3, .int (y3 + v8)), (0, .ref o), (1, .int y1), (2, .int y2), (4, .int y4)]) hx hb dX4_parts_155 rfl hl (by decide) rfl (fun ls hl => ?_)
            refine lv_iinc (v := (y4 + (1 : Int32))) (lv' := [(4, .int (y4 + (1 : Int32))), (3, .int (y3 + v8)), (0, .ref o), (1, .int y1), (2, .int y2)]) hx hb dX4_parts_156 hl (k := 4) rfl rfl (by decide) rfl (fun ls hl => ?_)
            refine lv_goto (tgt := 5) hx hb dX4_parts_159 (by decide) ?_
            exact ih (y3 + v8) (y4 + (1 : Int32)) _ (lv_sub hl [2, 3, 4, 1, 0] rfl) h
          · refine lv_if_eq (tgt := 153) hx hb dX4_parts_146 (by decide) (fun c9 => ?_) (fun c9 => ?_)
            · have h := xt c9 h
              refine lv_iconst (v := 0) hx hb dX4_parts_153 (by decide) ?_
              cases h
              exact hj _ (lv_sub hl [1, 2, 3, 5] rfl)
            · have h := xf c9 h
              refine lv_iconst (v := 1) hx hb dX4_parts_149 (by decide) ?_
              refine lv_goto (tgt := 154) hx hb dX4_parts_150 (by decide) ?_
              cases h
              exact hj _ (lv_sub hl [1, 2, 3, 5] rfl)
        · refine lv_icmp_ne (tgt := 70) hx hb dX4_parts_48 (by decide) (fun c10 => ?_) (fun c10 => ?_)
          · have h := xf c10 h
            refine lv_iload_n hx hb dX4_parts_70 rfl (lv_at hl 3 rfl) ?_
            refine lv_iconst (v := 5) hx hb dX4_parts_71 (by decide) ?_
            refine lv_icmp_ne (tgt := 94) hx hb dX4_parts_72 (by decide) (fun c11 => ?_) (fun c11 => ?_)
            · have h := xf c11 h
              refine lv_iload_n hx hb dX4_parts_94 rfl (lv_at hl 3 rfl) ?_
              refine lv_bipush (v := 6) hx hb dX4_parts_95 (by decide) ?_
              refine lv_icmp_ne (tgt := 120) hx hb dX4_parts_97 (by decide) (fun c12 => ?_) (fun c12 => ?_)
              · have h := xf c12 h
                refine lv_iload hx hb dX4_parts_120 (lv_at hl 0 rfl) ?_
                refine lv_if_eq (tgt := 140) hx hb dX4_parts_122 (by decide) (fun c13 => ?_) (fun c13 => ?_)
                · have h := xt c13 h
                  refine lv_iconst (v := 0) hx hb dX4_parts_140 (by decide) ?_
                  cases h
                  exact hj _ (lv_sub hl [1, 2, 3, 4, 5] rfl)
                · have h := xf c13 h
                  refine lv_aload_n hx hb dX4_parts_125 rfl (lv_at hl 1 rfl) ?_
                  refine lv_iload hx hb dX4_parts_126 (lv_at hl 5 rfl) ?_
                  refine lv_iconst (v := 4) hx hb dX4_parts_128 (by decide) ?_
                  obtain ⟨x14, h15, h⟩ := bE h
                  refine x_RV (As := [.int y4, .int (4 : Int32)]) (rest := []) hF (c_X4_quarrel0 l D cI cZ cT o fs a hfs z0 y4 (4 : Int32) x14 h15) (cwV 2 hts (gqV mw_437 mw_438 mw_439 mw_428 mw_431) rfl rfl rfl hd_X4_quarrel0 ⟨Nat.le_of_ble_eq_true rfl, Nat.le_of_ble_eq_true rfl⟩) hK hP q_T_bl (fun _ _ _ => trivial) [0, 1] rfl rfl rfl rfl hl.1 rfl (Nat.le_of_ble_eq_true rfl) dX4_parts_129 ⟨Nat.zero_le _, Nat.zero_le _⟩ ?_
                  refine lv_iconst (v := 2) hx hb dX4_parts_132 (by decide) ?_
                  refine lv_icmp_ne (tgt := 140) hx hb dX4_parts_133 (by decide) (fun c16 => ?_) (fun c16 => ?_)
                  · have h := xf c16 h
                    refine lv_iconst (v := 0) hx hb dX4_parts_140 (by decide) ?_
                    cases h
                    exact hj _ (lv_sub hl [1, 2, 3, 4, 5] rfl)
                  · have h := xt c16 h
                    refine lv_iconst (v := 1) hx hb dX4_parts_136 (by decide) ?_
                    refine lv_goto (tgt := 141) hx hb dX4_parts_137 (by decide) ?_
                    cases h
                    exact hj _ (lv_sub hl [1, 2, 3, 4, 5] rfl)
              · have h := xt c12 h
                refine lv_aload_n hx hb dX4_parts_100 rfl (lv_at hl 1 rfl) ?_
                refine lv_iload hx hb dX4_parts_101 (lv_at hl 5 rfl) ?_
                refine lv_bipush (v := 6) hx hb dX4_parts_103 (by decide) ?_
                obtain ⟨x17, h18, h⟩ := bE h
                refine x_RV (As := [.int y4, .int (6 : Int32)]) (rest := []) hF (c_X4_quarrel0 l D cI cZ cT o fs a hfs z0 y4 (6 : Int32) x17 h18) (cwV 2 hts (gqV mw_437 mw_438 mw_439 mw_428 mw_431) rfl rfl rfl hd_X4_quarrel0 ⟨Nat.le_of_ble_eq_true rfl, Nat.le_of_ble_eq_true rfl⟩) hK hP q_T_bl (fun _ _ _ => trivial) [0, 1] rfl rfl rfl rfl hl.1 rfl (Nat.le_of_ble_eq_true rfl) dX4_parts_105 ⟨Nat.zero_le _, Nat.zero_le _⟩ ?_
                refine lv_iload_n hx hb dX4_parts_108 rfl (lv_at hl 2 rfl) ?_
                refine lv_icmp_ne (tgt := 116) hx hb dX4_parts_109 (by decide) (fun c19 => ?_) (fun c19 => ?_)
                · have h := xf c19 h
                  refine lv_iconst (v := 0) hx hb dX4_parts_116 (by decide) ?_
                  refine lv_goto (tgt := 141) hx hb dX4_parts_117 (by decide) ?_
                  cases h
                  exact hj _ (lv_sub hl [1, 2, 3, 4, 5] rfl)
                · have h := xt c19 h
                  refine lv_iconst (v := 1) hx hb dX4_parts_112 (by decide) ?_
                  refine lv_goto (tgt := 141) hx hb dX4_parts_113 (by decide) ?_
                  cases h
                  exact hj _ (lv_sub hl [1, 2, 3, 4, 5] rfl)
            · have h := xt c11 h
              refine lv_aload_n hx hb dX4_parts_75 rfl (lv_at hl 1 rfl) ?_
              refine lv_iload hx hb dX4_parts_76 (lv_at hl 5 rfl) ?_
              refine lv_iconst (v := 1) hx hb dX4_parts_78 (by decide) ?_
              obtain ⟨x20, h21, h⟩ := bE h
              refine x_RV (As := [.int y4, .int (1 : Int32)]) (rest := []) hF (c_X4_quarrel0 l D cI cZ cT o fs a hfs z0 y4 (1 : Int32) x20 h21) (cwV 2 hts (gqV mw_437 mw_438 mw_439 mw_428 mw_431) rfl rfl rfl hd_X4_quarrel0 ⟨Nat.le_of_ble_eq_true rfl, Nat.le_of_ble_eq_true rfl⟩) hK hP q_T_bl (fun _ _ _ => trivial) [0, 1] rfl rfl rfl rfl hl.1 rfl (Nat.le_of_ble_eq_true rfl) dX4_parts_79 ⟨Nat.zero_le _, Nat.zero_le _⟩ ?_
              refine lv_iload_n hx hb dX4_parts_82 rfl (lv_at hl 2 rfl) ?_
              refine lv_icmp_ne (tgt := 90) hx hb dX4_parts_83 (by decide) (fun c22 => ?_) (fun c22 => ?_)
              · have h := xf c22 h
                refine lv_iconst (v := 0) hx hb dX4_parts_90 (by decide) ?_
                refine lv_goto (tgt := 141) hx hb dX4_parts_91 (by decide) ?_
                cases h
                exact hj _ (lv_sub hl [1, 2, 3, 4, 5] rfl)
              · have h := xt c22 h
                refine lv_iconst (v := 1) hx hb dX4_parts_86 (by decide) ?_
                refine lv_goto (tgt := 141) hx hb dX4_parts_87 (by decide) ?_
                cases h
                exact hj _ (lv_sub hl [1, 2, 3, 4, 5] rfl)
          · have h := xt c10 h
            refine lv_aload_n hx hb dX4_parts_51 rfl (lv_at hl 1 rfl) ?_
            refine lv_iload hx hb dX4_parts_52 (lv_at hl 5 rfl) ?_
            refine lv_iconst (v := 0) hx hb dX4_parts_54 (by decide) ?_
            obtain ⟨x23, h24, h⟩ := bE h
            refine x_RV (As := [.int y4, .int (0 : Int32)]) (rest := []) hF (c_X4_quarrel0 l D cI cZ cT o fs a hfs z0 y4 (0 : Int32) x23 h24) (cwV 2 hts (gqV mw_437 mw_438 mw_439 mw_428 mw_431) rfl rfl rfl hd_X4_quarrel0 ⟨Nat.le_of_ble_eq_true rfl, Nat.le_of_ble_eq_true rfl⟩) hK hP q_T_bl (fun _ _ _ => trivial) [0, 1] rfl rfl rfl rfl hl.1 rfl (Nat.le_of_ble_eq_true rfl) dX4_parts_55 ⟨Nat.zero_le _, Nat.zero_le _⟩ ?_
            refine lv_iload_n hx hb dX4_parts_58 rfl (lv_at hl 2 rfl) ?_
            refine lv_icmp_ne (tgt := 66) hx hb dX4_parts_59 (by decide) (fun c25 => ?_) (fun c25 => ?_)
            · have h := xf c25 h
              refine lv_iconst (v := 0) hx hb dX4_parts_66 (by decide) ?_
              refine lv_goto (tgt := 141) hx hb dX4_parts_67 (by decide) ?_
              cases h
              exact hj _ (lv_sub hl [1, 2, 3, 4, 5] rfl)
            · have h := xt c25 h
              refine lv_iconst (v := 1) hx hb dX4_parts_62 (by decide) ?_
              refine lv_goto (tgt := 141) hx hb dX4_parts_63 (by decide) ?_
              cases h
              exact hj _ (lv_sub hl [1, 2, 3, 4, 5] rfl)
      · refine lv_icmp_eq (tgt := 39) hx hb dX4_parts_25 (by decide) (fun c26 => ?_) (fun c26 => ?_)
        · have h := xt c26 h
          refine lv_iconst (v := 1) hx hb dX4_parts_39 (by decide) ?_
          refine lv_goto (tgt := 44) hx hb dX4_parts_40 (by decide) ?_
          cases h
          exact hj _ (lv_sub hl [0, 1, 2, 3, 4] rfl)
        · have h := xf c26 h
          refine lv_aload_n hx hb dX4_parts_28 rfl (lv_at hl 0 rfl) ?_
          refine lv_iload hx hb dX4_parts_29 (lv_at hl 4 rfl) ?_
          refine lv_iconst (v := 1) hx hb dX4_parts_31 (by decide) ?_
          obtain ⟨x27, h28, h⟩ := bE h
          refine x_RV (As := [.int y4, .int (1 : Int32)]) (rest := []) hF (c_X4_quarrel0 l D cI cZ cT o fs a hfs z0 y4 (1 : Int32) x27 h28) (cwV 2 hts (gqV mw_437 mw_438 mw_439 mw_428 mw_431) rfl rfl rfl hd_X4_quarrel0 ⟨Nat.le_of_ble_eq_true rfl, Nat.le_of_ble_eq_true rfl⟩) hK hP q_T_bl (fun _ _ _ => trivial) [0, 1] rfl rfl rfl rfl hl.1 rfl (Nat.le_of_ble_eq_true rfl) dX4_parts_32 ⟨Nat.zero_le _, Nat.zero_le _⟩ ?_
          refine lv_iload_n hx hb dX4_parts_35 rfl (lv_at hl 1 rfl) ?_
          refine lv_icmp_ne (tgt := 43) hx hb dX4_parts_36 (by decide) (fun c29 => ?_) (fun c29 => ?_)
          · have h := xf c29 h
            refine lv_iconst (v := 0) hx hb dX4_parts_43 (by decide) ?_
            cases h
            exact hj _ (lv_sub hl [0, 1, 2, 3, 4] rfl)
          · have h := xt c29 h
            refine lv_iconst (v := 1) hx hb dX4_parts_39 (by decide) ?_
            refine lv_goto (tgt := 44) hx hb dX4_parts_40 (by decide) ?_
            cases h
            exact hj _ (lv_sub hl [0, 1, 2, 3, 4] rfl)
set_option maxHeartbeats 4000000 in
set_option maxRecDepth 100000 in
theorem c_X4_parts (l : Launch) (D : va_G) (cI cZ cT : ClassId) (o : Nat) (fs : List Value) (a : Nat) (hfs : fs[0]? = some (.ref a)) (u : Nat → Int32) (a1 : Int32) (a2 : Int32) (r : Int32) (h : f_X4_parts u a1 a2 = some r) : Met l yX4_parts (wq yX4_parts cX4_parts 7 (some .int)) rm_X4_parts (q_R D (q_tys cI cZ cT) (wS cI o fs a u) q_T [.ref o, .int a1, .int a2]) (vp_Si (fun r' => r' = r)) 0 0 (fun _ => False) := by
  refine q_RI (cc := cX4_parts) (maxL := 7) (ret := (some .int)) (plainFor_of_name (by decide)) (Nat.le_of_ble_eq_true rfl) (fun p e s m below meth c C0 hP hK hE ls hl => ?_)
  have hl : lv_has ls 7 [(0, .ref o), (1, .int a1), (2, .int a2)] := hl
  obtain ⟨hx, hb, hr, hml, hown, hts, hlocks⟩ := id C0
  have hF : CallFix p m c cX4_parts 7 s _ BW RX4 := ⟨hx, hb, hml, hown, hts⟩
  rw [f_X4_parts] at h
  refine lv_iconst (v := 0) hx hb dX4_parts_0 (by decide) ?_
  refine lv_istore_n (lv' := [(3, .int (0 : Int32)), (0, .ref o), (1, .int a1), (2, .int a2)]) hx hb dX4_parts_1 rfl hl (by decide) rfl (fun ls hl => ?_)
  refine lv_iconst (v := 0) hx hb dX4_parts_2 (by decide) ?_
  refine lv_istore (lv' := [(4, .int (0 : Int32)), (3, .int (0 : Int32)), (0, .ref o), (1, .int a1), (2, .int a2)]) hx hb dX4_parts_3 hl (by decide) rfl (fun ls hl => ?_)
  obtain ⟨v30, h31, h⟩ := bE h
  refine k_X4_parts_L5 (v := v30) o fs a hfs u a1 a2 C0 hK hP (fun ls hl => ?_) 2000 (0 : Int32) (0 : Int32) _ (lv_sub hl [2, 3, 4, 1, 0] rfl) h31
  refine lv_iload_n hx hb dX4_parts_162 rfl (lv_at hl 0 rfl) ?_
  cases h
  exact x_retR C0 rfl dX4_parts_163

/-! QuarrelWaysModel.secondOf (I)I -/
def f_X4_secondOf_L4 (z0 : Nat → Int32) (y1 : Int32) : Nat → Int32 → Int32 → Option (Int32)
  | 0, _, _ => none
  | n + 1, y2, y3 => ((rd z0 181 (5 : Int32)).bind fun x1 => (if x1 ≤ y3 then some y2 else ((f_X4_person0 z0 y3 (2 : Int32)).bind fun x4 => (((if x4 = y1 then some ((1 : Int32) <<< (y3 &&& 31)) else some (0 : Int32)) : Option (Int32)).bind fun v6 => f_X4_secondOf_L4 z0 y1 n (y2 ||| v6) (y3 + (1 : Int32))))))
def f_X4_secondOf (u : Nat → Int32) (a1 : Int32) : Option (Int32) := ((f_X4_secondOf_L4 u a1 2000 (0 : Int32) (0 : Int32)).bind fun v8 => some v8)
abbrev rm_X4_secondOf : Room := { frames := 1, cells := 0, slots := 0, locals := 22 }
theorem hd_X4_secondOf : yX4_secondOf.cls = RX4 ∧ yX4_secondOf.cls ≠ "java/lang/invoke/MethodHandle" ∧ yX4_secondOf.cls ≠ "java/lang/invoke/VarHandle" ∧ (parseMethodDescriptor yX4_secondOf.desc).map (fun d => d.parameters.length) = some 1 := by decide +kernel
set_option maxHeartbeats 4000000 in
set_option maxRecDepth 100000 in
theorem k_X4_secondOf_L4 {Q : State → Prop} {v : Int32} (o : Nat) (fs : List Value) (a : Nat) (hfs : fs[0]? = some (.ref a)) (z0 : Nat → Int32) (y1 : Int32) (C0 : q_At p s m args meth c cX4_secondOf 4 (some .int) RX4) (hK : va_K D vwCl (q_tys cI cZ cT) s) (hP : va_P D vwCl (wS cI o fs a z0) s.heap) (hj : ∀ (ls : Array Slot), lv_has ls 4 [(2, .int v)] → W p l e rm_X4_secondOf s m args below meth c s.heap [] 0 0 Q (F0 m 40 ls [])) : ∀ (n : Nat) (y2 : Int32) (y3 : Int32) (ls : Array Slot), lv_has ls 4 [(0, .ref o), (1, .int y1), (2, .int y2), (3, .int y3)] → f_X4_secondOf_L4 z0 y1 n y2 y3 = some v → W p l e rm_X4_secondOf s m args below meth c s.heap [] 0 0 (Q) (F0 m 4 ls []) := by
  obtain ⟨hx, hb, hr, hml, hown, hts, hlocks⟩ := id C0
  have hF : CallFix p m c cX4_secondOf 4 s args BW RX4 := ⟨hx, hb, hml, hown, hts⟩
  intro n
  induction n with
  | zero =>
    intro y2 y3 ls hl h
    rw [f_X4_secondOf_L4] at h
    cases h
  | succ n ih =>
    intro y2 y3 ls hl h
    rw [f_X4_secondOf_L4] at h
    refine lv_iload_n hx hb dX4_secondOf_4 rfl (lv_at hl 3 rfl) ?_
    refine lv_aload_n hx hb dX4_secondOf_5 rfl (lv_at hl 0 rfl) ?_
    refine va_get (D := D) (v := .ref a) (C := RX4) (T := TX4) (N := 10) hx hb hts iw_X4 hown hK hP 0 rfl rfl 0 (by decide) (hts _ mw_414) (fun _ h9 => h9) hfs dX4_secondOf_6 ?_
    refine lv_iconst (v := 5) hx hb dX4_secondOf_9 (by decide) ?_
    obtain ⟨x1, h2, h⟩ := bE h
    refine x_iald (cA := cI) hx hb hK hP 1 0 rfl rfl h2 dX4_secondOf_10 ?_
    refine lv_icmp_ge (tgt := 40) hx hb dX4_secondOf_11 (by decide) (fun c3 => ?_) (fun c3 => ?_)
    · have h := xt c3 h
      cases h
      exact hj _ (lv_sub hl [2] rfl)
    · have h := xf c3 h
      refine lv_iload_n hx hb dX4_secondOf_14 rfl (lv_at hl 2 rfl) ?_
      refine lv_aload_n hx hb dX4_secondOf_15 rfl (lv_at hl 0 rfl) ?_
      refine lv_iload_n hx hb dX4_secondOf_16 rfl (lv_at hl 3 rfl) ?_
      refine lv_iconst (v := 2) hx hb dX4_secondOf_17 (by decide) ?_
      obtain ⟨x4, h5, h⟩ := bE h
      refine x_RV (As := [.int y3, .int (2 : Int32)]) (rest := [.int y2]) hF (c_X4_person0 l D cI cZ cT o fs a hfs z0 y3 (2 : Int32) x4 h5) (cwV 2 hts (gqV mw_433 mw_434 mw_435 mw_428 mw_430) rfl rfl rfl hd_X4_person0 ⟨Nat.le_of_ble_eq_true rfl, Nat.le_of_ble_eq_true rfl⟩) hK hP q_T_bl (fun _ _ _ => trivial) [0, 1] rfl rfl rfl rfl hl.1 rfl (Nat.le_of_ble_eq_true rfl) dX4_secondOf_18 ⟨Nat.zero_le _, Nat.zero_le _⟩ ?_
      refine lv_iload_n hx hb dX4_secondOf_21 rfl (lv_at hl 1 rfl) ?_
      refine x_j (V := Int32) (nL := 4) (fun v6 => [(0, .ref o), (1, .int y1), (3, .int y3)]) 32 (fun v6 => [.int v6, .int y2]) h (fun v6 h ls hl => ?_) (fun v6 h hj => ?_)
      · refine lv_ior hx hb dX4_secondOf_32 ?_
        refine lv_istore_n (lv' := [(2, .int (y2 ||| v6)), (0, .ref o), (1, .int y1), (3, .int y3)]) hx hb dX4_secondOf_33 rfl hl (by decide) rfl (fun ls hl => ?_)
        refine lv_iinc (v := (y3 + (1 : Int32))) (lv' := [(3, .int (y3 + (1 : Int32))), (2, .int (y2 ||| v6)), (0, .ref o), (1, .int y1)]) hx hb dX4_secondOf_34 hl (k := 3) rfl rfl (by decide) rfl (fun ls hl => ?_)
        refine lv_goto (tgt := 4) hx hb dX4_secondOf_37 (by decide) ?_
        exact ih (y2 ||| v6) (y3 + (1 : Int32)) _ (lv_sub hl [2, 3, 1, 0] rfl) h
      · refine lv_icmp_ne (tgt := 31) hx hb dX4_secondOf_22 (by decide) (fun c7 => ?_) (fun c7 => ?_)
        · have h := xf c7 h
          refine lv_iconst (v := 0) hx hb dX4_secondOf_31 (by decide) ?_
          cases h
          exact hj _ (lv_sub hl [0, 1, 3] rfl)
        · have h := xt c7 h
          refine lv_iconst (v := 1) hx hb dX4_secondOf_25 (by decide) ?_
          refine lv_iload_n hx hb dX4_secondOf_26 rfl (lv_at hl 3 rfl) ?_
          refine lv_ishl hx hb dX4_secondOf_27 ?_
          refine lv_goto (tgt := 32) hx hb dX4_secondOf_28 (by decide) ?_
          cases h
          exact hj _ (lv_sub hl [0, 1, 3] rfl)
set_option maxHeartbeats 4000000 in
set_option maxRecDepth 100000 in
theorem c_X4_secondOf (l : Launch) (D : va_G) (cI cZ cT : ClassId) (o : Nat) (fs : List Value) (a : Nat) (hfs : fs[0]? = some (.ref a)) (u : Nat → Int32) (a1 : Int32) (r : Int32) (h : f_X4_secondOf u a1 = some r) : Met l yX4_secondOf (wq yX4_secondOf cX4_secondOf 4 (some .int)) rm_X4_secondOf (q_R D (q_tys cI cZ cT) (wS cI o fs a u) q_T [.ref o, .int a1]) (vp_Si (fun r' => r' = r)) 0 0 (fun _ => False) := by
  refine q_RI (cc := cX4_secondOf) (maxL := 4) (ret := (some .int)) (plainFor_of_name (by decide)) (Nat.le_of_ble_eq_true rfl) (fun p e s m below meth c C0 hP hK hE ls hl => ?_)
  have hl : lv_has ls 4 [(0, .ref o), (1, .int a1)] := hl
  obtain ⟨hx, hb, hr, hml, hown, hts, hlocks⟩ := id C0
  have hF : CallFix p m c cX4_secondOf 4 s _ BW RX4 := ⟨hx, hb, hml, hown, hts⟩
  rw [f_X4_secondOf] at h
  refine lv_iconst (v := 0) hx hb dX4_secondOf_0 (by decide) ?_
  refine lv_istore_n (lv' := [(2, .int (0 : Int32)), (0, .ref o), (1, .int a1)]) hx hb dX4_secondOf_1 rfl hl (by decide) rfl (fun ls hl => ?_)
  refine lv_iconst (v := 0) hx hb dX4_secondOf_2 (by decide) ?_
  refine lv_istore_n (lv' := [(3, .int (0 : Int32)), (2, .int (0 : Int32)), (0, .ref o), (1, .int a1)]) hx hb dX4_secondOf_3 rfl hl (by decide) rfl (fun ls hl => ?_)
  obtain ⟨v8, h9, h⟩ := bE h
  refine k_X4_secondOf_L4 (v := v8) o fs a hfs u a1 C0 hK hP (fun ls hl => ?_) 2000 (0 : Int32) (0 : Int32) _ (lv_sub hl [2, 3, 1, 0] rfl) h9
  refine lv_iload_n hx hb dX4_secondOf_40 rfl (lv_at hl 0 rfl) ?_
  cases h
  exact x_retR C0 rfl dX4_secondOf_41

/-! QuarrelWaysModel.oathLeft (I)I -/
def f_X4_oathLeft (u : Nat → Int32) (a1 : Int32) : Option (Int32) := ((f_X4_person0 u a1 (3 : Int32)).bind fun x1 => ((rd u 181 (4 : Int32)).bind fun x3 => (if 0 ≤ (x1 - x3) then some (x1 - x3) else some (0 : Int32))))
abbrev rm_X4_oathLeft : Room := { frames := 1, cells := 0, slots := 0, locals := 22 }
theorem hd_X4_oathLeft : yX4_oathLeft.cls = RX4 ∧ yX4_oathLeft.cls ≠ "java/lang/invoke/MethodHandle" ∧ yX4_oathLeft.cls ≠ "java/lang/invoke/VarHandle" ∧ (parseMethodDescriptor yX4_oathLeft.desc).map (fun d => d.parameters.length) = some 1 := by decide +kernel
set_option maxHeartbeats 4000000 in
set_option maxRecDepth 100000 in
theorem c_X4_oathLeft (l : Launch) (D : va_G) (cI cZ cT : ClassId) (o : Nat) (fs : List Value) (a : Nat) (hfs : fs[0]? = some (.ref a)) (u : Nat → Int32) (a1 : Int32) (r : Int32) (h : f_X4_oathLeft u a1 = some r) : Met l yX4_oathLeft (wq yX4_oathLeft cX4_oathLeft 3 (some .int)) rm_X4_oathLeft (q_R D (q_tys cI cZ cT) (wS cI o fs a u) q_T [.ref o, .int a1]) (vp_Si (fun r' => r' = r)) 0 0 (fun _ => False) := by
  refine q_RI (cc := cX4_oathLeft) (maxL := 3) (ret := (some .int)) (plainFor_of_name (by decide)) (Nat.le_of_ble_eq_true rfl) (fun p e s m below meth c C0 hP hK hE ls hl => ?_)
  have hl : lv_has ls 3 [(0, .ref o), (1, .int a1)] := hl
  obtain ⟨hx, hb, hr, hml, hown, hts, hlocks⟩ := id C0
  have hF : CallFix p m c cX4_oathLeft 3 s _ BW RX4 := ⟨hx, hb, hml, hown, hts⟩
  rw [f_X4_oathLeft] at h
  refine lv_aload_n hx hb dX4_oathLeft_0 rfl (lv_at hl 0 rfl) ?_
  refine lv_iload_n hx hb dX4_oathLeft_1 rfl (lv_at hl 1 rfl) ?_
  refine lv_iconst (v := 3) hx hb dX4_oathLeft_2 (by decide) ?_
  obtain ⟨x1, h2, h⟩ := bE h
  refine x_RV (As := [.int a1, .int (3 : Int32)]) (rest := []) hF (c_X4_person0 l D cI cZ cT o fs a hfs u a1 (3 : Int32) x1 h2) (cwV 2 hts (gqV mw_433 mw_434 mw_435 mw_428 mw_430) rfl rfl rfl hd_X4_person0 ⟨Nat.le_of_ble_eq_true rfl, Nat.le_of_ble_eq_true rfl⟩) hK hP q_T_bl (fun _ _ _ => trivial) [0, 1] rfl rfl rfl rfl hl.1 rfl (Nat.le_of_ble_eq_true rfl) dX4_oathLeft_3 ⟨Nat.zero_le _, Nat.zero_le _⟩ ?_
  refine lv_aload_n hx hb dX4_oathLeft_6 rfl (lv_at hl 0 rfl) ?_
  refine va_get (D := D) (v := .ref a) (C := RX4) (T := TX4) (N := 10) hx hb hts iw_X4 hown hK hP 0 rfl rfl 0 (by decide) (hts _ mw_414) (fun _ h9 => h9) hfs dX4_oathLeft_7 ?_
  refine lv_iconst (v := 4) hx hb dX4_oathLeft_10 (by decide) ?_
  obtain ⟨x3, h4, h⟩ := bE h
  refine x_iald (cA := cI) hx hb hK hP 1 0 rfl rfl h4 dX4_oathLeft_11 ?_
  refine lv_isub hx hb dX4_oathLeft_12 ?_
  refine lv_istore_n (lv' := [(2, .int (x1 - x3)), (0, .ref o), (1, .int a1)]) hx hb dX4_oathLeft_13 rfl hl (by decide) rfl (fun ls hl => ?_)
  refine lv_iload_n hx hb dX4_oathLeft_14 rfl (lv_at hl 0 rfl) ?_
  refine lv_if_ge (tgt := 22) hx hb dX4_oathLeft_15 (by decide) (fun c5 => ?_) (fun c5 => ?_)
  · have h := xt c5 h
    refine lv_iload_n hx hb dX4_oathLeft_22 rfl (lv_at hl 0 rfl) ?_
    cases h
    exact x_retR C0 rfl dX4_oathLeft_23
  · have h := xf c5 h
    refine lv_iconst (v := 0) hx hb dX4_oathLeft_18 (by decide) ?_
    refine lv_goto (tgt := 23) hx hb dX4_oathLeft_19 (by decide) ?_
    cases h
    exact x_retR C0 rfl dX4_oathLeft_23

/-! QuarrelWaysModel.of (II)I -/
def f_X4_of (u : Nat → Int32) (a1 : Int32) (a2 : Int32) : Option (Int32) := ((f_X4_isPerson u a1).bind fun x1 => (if x1 = 0 then some (-1 : Int32) else (if a2 = (0 : Int32) then ((f_X4_person0 u a1 a2).bind fun x6 => some x6) else (if a2 = (1 : Int32) then ((f_X4_person0 u a1 a2).bind fun x9 => some x9) else (if a2 = (2 : Int32) then ((f_X4_person0 u a1 a2).bind fun x12 => some x12) else (if a2 = (3 : Int32) then ((f_X4_oathLeft u a1).bind fun x15 => some x15) else (if a2 = (4 : Int32) then ((f_X4_parts u a1 a2).bind fun x18 => some x18) else (if a2 = (5 : Int32) then ((f_X4_parts u a1 a2).bind fun x21 => some x21) else (if a2 = (6 : Int32) then ((f_X4_parts u a1 a2).bind fun x24 => some x24) else (if a2 = (7 : Int32) then ((f_X4_parts u a1 a2).bind fun x27 => some x27) else (if a2 = (8 : Int32) then ((f_X4_secondOf u a1).bind fun x30 => some x30) else some (-2 : Int32))))))))))))
abbrev rm_X4_of : Room := { frames := 2, cells := 0, slots := 0, locals := 48 }
theorem hd_X4_of : yX4_of.cls = RX4 ∧ yX4_of.cls ≠ "java/lang/invoke/MethodHandle" ∧ yX4_of.cls ≠ "java/lang/invoke/VarHandle" ∧ (parseMethodDescriptor yX4_of.desc).map (fun d => d.parameters.length) = some 2 := by decide +kernel
set_option maxHeartbeats 4000000 in
set_option maxRecDepth 100000 in
theorem c_X4_of (l : Launch) (D : va_G) (cI cZ cT : ClassId) (o : Nat) (fs : List Value) (a : Nat) (hfs : fs[0]? = some (.ref a)) (u : Nat → Int32) (a1 : Int32) (a2 : Int32) (r : Int32) (h : f_X4_of u a1 a2 = some r) : Met l yX4_of (wq yX4_of cX4_of 3 (some .int)) rm_X4_of (q_R D (q_tys cI cZ cT) (wS cI o fs a u) q_T [.ref o, .int a1, .int a2]) (vp_Si (fun r' => r' = r)) 0 0 (fun _ => False) := by
  refine q_RI (cc := cX4_of) (maxL := 3) (ret := (some .int)) (plainFor_of_name (by decide)) (Nat.le_of_ble_eq_true rfl) (fun p e s m below meth c C0 hP hK hE ls hl => ?_)
  have hl : lv_has ls 3 [(0, .ref o), (1, .int a1), (2, .int a2)] := hl
  obtain ⟨hx, hb, hr, hml, hown, hts, hlocks⟩ := id C0
  have hF : CallFix p m c cX4_of 3 s _ BW RX4 := ⟨hx, hb, hml, hown, hts⟩
  rw [f_X4_of] at h
  refine lv_aload_n hx hb dX4_of_0 rfl (lv_at hl 0 rfl) ?_
  refine lv_iload_n hx hb dX4_of_1 rfl (lv_at hl 1 rfl) ?_
  obtain ⟨x1, h2, h⟩ := bE h
  refine x_RV (As := [.int a1]) (rest := []) hF (c_X4_isPerson l D cI cZ cT o fs a hfs u a1 x1 h2) (cwV 1 hts (gqV mw_483 mw_484 mw_485 mw_428 mw_425) rfl rfl rfl hd_X4_isPerson ⟨Nat.le_of_ble_eq_true rfl, Nat.le_of_ble_eq_true rfl⟩) hK hP q_T_bl (fun _ _ _ => trivial) [0, 1] rfl rfl rfl rfl hl.1 rfl (Nat.le_of_ble_eq_true rfl) dX4_of_2 ⟨Nat.zero_le _, Nat.zero_le _⟩ ?_
  refine lv_if_ne (tgt := 10) hx hb dX4_of_5 (by decide) (fun c3 => ?_) (fun c3 => ?_)
  · have h := xf c3 h
    refine lv_iload_n hx hb dX4_of_10 rfl (lv_at hl 2 rfl) ?_
    by_cases c5 : a2 = (0 : Int32)
    · have h := xt c5 h
      refine lv_tableIn (tgt := 60) hx hb dX4_of_11 (by rw [c5]; decide) (by rw [c5]; decide) (off := 49) (by rw [c5]; rfl) (by decide) ?_
      refine lv_aload_n hx hb dX4_of_60 rfl (lv_at hl 0 rfl) ?_
      refine lv_iload_n hx hb dX4_of_61 rfl (lv_at hl 1 rfl) ?_
      refine lv_iload_n hx hb dX4_of_62 rfl (lv_at hl 2 rfl) ?_
      obtain ⟨x6, h7, h⟩ := bE h
      refine x_RV (As := [.int a1, .int a2]) (rest := []) hF (c_X4_person0 l D cI cZ cT o fs a hfs u a1 a2 x6 h7) (cwV 2 hts (gqV mw_433 mw_434 mw_435 mw_428 mw_430) rfl rfl rfl hd_X4_person0 ⟨Nat.le_of_ble_eq_true rfl, Nat.le_of_ble_eq_true rfl⟩) hK hP q_T_bl (fun _ _ _ => trivial) [0, 1] rfl rfl rfl rfl hl.1 rfl (Nat.le_of_ble_eq_true rfl) dX4_of_63 ⟨Nat.zero_le _, Nat.zero_le _⟩ ?_
      cases h
      exact x_retR C0 rfl dX4_of_66
    have h := xf c5 h
    by_cases c8 : a2 = (1 : Int32)
    · have h := xt c8 h
      refine lv_tableIn (tgt := 60) hx hb dX4_of_11 (by rw [c8]; decide) (by rw [c8]; decide) (off := 49) (by rw [c8]; rfl) (by decide) ?_
      refine lv_aload_n hx hb dX4_of_60 rfl (lv_at hl 0 rfl) ?_
      refine lv_iload_n hx hb dX4_of_61 rfl (lv_at hl 1 rfl) ?_
      refine lv_iload_n hx hb dX4_of_62 rfl (lv_at hl 2 rfl) ?_
      obtain ⟨x9, h10, h⟩ := bE h
      refine x_RV (As := [.int a1, .int a2]) (rest := []) hF (c_X4_person0 l D cI cZ cT o fs a hfs u a1 a2 x9 h10) (cwV 2 hts (gqV mw_433 mw_434 mw_435 mw_428 mw_430) rfl rfl rfl hd_X4_person0 ⟨Nat.le_of_ble_eq_true rfl, Nat.le_of_ble_eq_true rfl⟩) hK hP q_T_bl (fun _ _ _ => trivial) [0, 1] rfl rfl rfl rfl hl.1 rfl (Nat.le_of_ble_eq_true rfl) dX4_of_63 ⟨Nat.zero_le _, Nat.zero_le _⟩ ?_
      cases h
      exact x_retR C0 rfl dX4_of_66
    have h := xf c8 h
    by_cases c11 : a2 = (2 : Int32)
    · have h := xt c11 h
      refine lv_tableIn (tgt := 60) hx hb dX4_of_11 (by rw [c11]; decide) (by rw [c11]; decide) (off := 49) (by rw [c11]; rfl) (by decide) ?_
      refine lv_aload_n hx hb dX4_of_60 rfl (lv_at hl 0 rfl) ?_
      refine lv_iload_n hx hb dX4_of_61 rfl (lv_at hl 1 rfl) ?_
      refine lv_iload_n hx hb dX4_of_62 rfl (lv_at hl 2 rfl) ?_
      obtain ⟨x12, h13, h⟩ := bE h
      refine x_RV (As := [.int a1, .int a2]) (rest := []) hF (c_X4_person0 l D cI cZ cT o fs a hfs u a1 a2 x12 h13) (cwV 2 hts (gqV mw_433 mw_434 mw_435 mw_428 mw_430) rfl rfl rfl hd_X4_person0 ⟨Nat.le_of_ble_eq_true rfl, Nat.le_of_ble_eq_true rfl⟩) hK hP q_T_bl (fun _ _ _ => trivial) [0, 1] rfl rfl rfl rfl hl.1 rfl (Nat.le_of_ble_eq_true rfl) dX4_of_63 ⟨Nat.zero_le _, Nat.zero_le _⟩ ?_
      cases h
      exact x_retR C0 rfl dX4_of_66
    have h := xf c11 h
    by_cases c14 : a2 = (3 : Int32)
    · have h := xt c14 h
      refine lv_tableIn (tgt := 67) hx hb dX4_of_11 (by rw [c14]; decide) (by rw [c14]; decide) (off := 56) (by rw [c14]; rfl) (by decide) ?_
      refine lv_aload_n hx hb dX4_of_67 rfl (lv_at hl 0 rfl) ?_
      refine lv_iload_n hx hb dX4_of_68 rfl (lv_at hl 1 rfl) ?_
      obtain ⟨x15, h16, h⟩ := bE h
      refine x_RV (As := [.int a1]) (rest := []) hF (c_X4_oathLeft l D cI cZ cT o fs a hfs u a1 x15 h16) (cwV 1 hts (gqV mw_557 mw_558 mw_559 mw_428 mw_556) rfl rfl rfl hd_X4_oathLeft ⟨Nat.le_of_ble_eq_true rfl, Nat.le_of_ble_eq_true rfl⟩) hK hP q_T_bl (fun _ _ _ => trivial) [0, 1] rfl rfl rfl rfl hl.1 rfl (Nat.le_of_ble_eq_true rfl) dX4_of_69 ⟨Nat.zero_le _, Nat.zero_le _⟩ ?_
      cases h
      exact x_retR C0 rfl dX4_of_72
    have h := xf c14 h
    by_cases c17 : a2 = (4 : Int32)
    · have h := xt c17 h
      refine lv_tableIn (tgt := 73) hx hb dX4_of_11 (by rw [c17]; decide) (by rw [c17]; decide) (off := 62) (by rw [c17]; rfl) (by decide) ?_
      refine lv_aload_n hx hb dX4_of_73 rfl (lv_at hl 0 rfl) ?_
      refine lv_iload_n hx hb dX4_of_74 rfl (lv_at hl 1 rfl) ?_
      refine lv_iload_n hx hb dX4_of_75 rfl (lv_at hl 2 rfl) ?_
      obtain ⟨x18, h19, h⟩ := bE h
      refine x_RV (As := [.int a1, .int a2]) (rest := []) hF (c_X4_parts l D cI cZ cT o fs a hfs u a1 a2 x18 h19) (cwV 2 hts (gqV mw_560 mw_561 mw_562 mw_428 mw_554) rfl rfl rfl hd_X4_parts ⟨Nat.le_of_ble_eq_true rfl, Nat.le_of_ble_eq_true rfl⟩) hK hP q_T_bl (fun _ _ _ => trivial) [0, 1] rfl rfl rfl rfl hl.1 rfl (Nat.le_of_ble_eq_true rfl) dX4_of_76 ⟨Nat.zero_le _, Nat.zero_le _⟩ ?_
      cases h
      exact x_retR C0 rfl dX4_of_79
    have h := xf c17 h
    by_cases c20 : a2 = (5 : Int32)
    · have h := xt c20 h
      refine lv_tableIn (tgt := 73) hx hb dX4_of_11 (by rw [c20]; decide) (by rw [c20]; decide) (off := 62) (by rw [c20]; rfl) (by decide) ?_
      refine lv_aload_n hx hb dX4_of_73 rfl (lv_at hl 0 rfl) ?_
      refine lv_iload_n hx hb dX4_of_74 rfl (lv_at hl 1 rfl) ?_
      refine lv_iload_n hx hb dX4_of_75 rfl (lv_at hl 2 rfl) ?_
      obtain ⟨x21, h22, h⟩ := bE h
      refine x_RV (As := [.int a1, .int a2]) (rest := []) hF (c_X4_parts l D cI cZ cT o fs a hfs u a1 a2 x21 h22) (cwV 2 hts (gqV mw_560 mw_561 mw_562 mw_428 mw_554) rfl rfl rfl hd_X4_parts ⟨Nat.le_of_ble_eq_true rfl, Nat.le_of_ble_eq_true rfl⟩) hK hP q_T_bl (fun _ _ _ => trivial) [0, 1] rfl rfl rfl rfl hl.1 rfl (Nat.le_of_ble_eq_true rfl) dX4_of_76 ⟨Nat.zero_le _, Nat.zero_le _⟩ ?_
      cases h
      exact x_retR C0 rfl dX4_of_79
    have h := xf c20 h
    by_cases c23 : a2 = (6 : Int32)
    · have h := xt c23 h
      refine lv_tableIn (tgt := 73) hx hb dX4_of_11 (by rw [c23]; decide) (by rw [c23]; decide) (off := 62) (by rw [c23]; rfl) (by decide) ?_
      refine lv_aload_n hx hb dX4_of_73 rfl (lv_at hl 0 rfl) ?_
      refine lv_iload_n hx hb dX4_of_74 rfl (lv_at hl 1 rfl) ?_
      refine lv_iload_n hx hb dX4_of_75 rfl (lv_at hl 2 rfl) ?_
      obtain ⟨x24, h25, h⟩ := bE h
      refine x_RV (As := [.int a1, .int a2]) (rest := []) hF (c_X4_parts l D cI cZ cT o fs a hfs u a1 a2 x24 h25) (cwV 2 hts (gqV mw_560 mw_561 mw_562 mw_428 mw_554) rfl rfl rfl hd_X4_parts ⟨Nat.le_of_ble_eq_true rfl, Nat.le_of_ble_eq_true rfl⟩) hK hP q_T_bl (fun _ _ _ => trivial) [0, 1] rfl rfl rfl rfl hl.1 rfl (Nat.le_of_ble_eq_true rfl) dX4_of_76 ⟨Nat.zero_le _, Nat.zero_le _⟩ ?_
      cases h
      exact x_retR C0 rfl dX4_of_79
    have h := xf c23 h
    by_cases c26 : a2 = (7 : Int32)
    · have h := xt c26 h
      refine lv_tableIn (tgt := 73) hx hb dX4_of_11 (by rw [c26]; decide) (by rw [c26]; decide) (off := 62) (by rw [c26]; rfl) (by decide) ?_
      refine lv_aload_n hx hb dX4_of_73 rfl (lv_at hl 0 rfl) ?_
      refine lv_iload_n hx hb dX4_of_74 rfl (lv_at hl 1 rfl) ?_
      refine lv_iload_n hx hb dX4_of_75 rfl (lv_at hl 2 rfl) ?_
      obtain ⟨x27, h28, h⟩ := bE h
      refine x_RV (As := [.int a1, .int a2]) (rest := []) hF (c_X4_parts l D cI cZ cT o fs a hfs u a1 a2 x27 h28) (cwV 2 hts (gqV mw_560 mw_561 mw_562 mw_428 mw_554) rfl rfl rfl hd_X4_parts ⟨Nat.le_of_ble_eq_true rfl, Nat.le_of_ble_eq_true rfl⟩) hK hP q_T_bl (fun _ _ _ => trivial) [0, 1] rfl rfl rfl rfl hl.1 rfl (Nat.le_of_ble_eq_true rfl) dX4_of_76 ⟨Nat.zero_le _, Nat.zero_le _⟩ ?_
      cases h
      exact x_retR C0 rfl dX4_of_79
    have h := xf c26 h
    by_cases c29 : a2 = (8 : Int32)
    · have h := xt c29 h
      refine lv_tableIn (tgt := 80) hx hb dX4_of_11 (by rw [c29]; decide) (by rw [c29]; decide) (off := 69) (by rw [c29]; rfl) (by decide) ?_
      refine lv_aload_n hx hb dX4_of_80 rfl (lv_at hl 0 rfl) ?_
      refine lv_iload_n hx hb dX4_of_81 rfl (lv_at hl 1 rfl) ?_
      obtain ⟨x30, h31, h⟩ := bE h
      refine x_RV (As := [.int a1]) (rest := []) hF (c_X4_secondOf l D cI cZ cT o fs a hfs u a1 x30 h31) (cwV 1 hts (gqV mw_563 mw_564 mw_565 mw_428 mw_555) rfl rfl rfl hd_X4_secondOf ⟨Nat.le_of_ble_eq_true rfl, Nat.le_of_ble_eq_true rfl⟩) hK hP q_T_bl (fun _ _ _ => trivial) [0, 1] rfl rfl rfl rfl hl.1 rfl (Nat.le_of_ble_eq_true rfl) dX4_of_82 ⟨Nat.zero_le _, Nat.zero_le _⟩ ?_
      cases h
      exact x_retR C0 rfl dX4_of_85
    have h := xf c29 h
    refine lv_tableOut (tgt := 86) hx hb dX4_of_11 (by have := lv_neT c5 (a := 0) rfl; have := lv_neT c8 (a := 1) rfl; have := lv_neT c11 (a := 2) rfl; have := lv_neT c14 (a := 3) rfl; have := lv_neT c17 (a := 4) rfl; have := lv_neT c20 (a := 5) rfl; have := lv_neT c23 (a := 6) rfl; have := lv_neT c26 (a := 7) rfl; have := lv_neT c29 (a := 8) rfl; omega) (by decide) ?_
    refine lv_bipush (v := (-2)) hx hb dX4_of_86 (by decide) ?_
    cases h
    exact x_retR C0 rfl dX4_of_88
  · have h := xt c3 h
    refine lv_iconst (v := (-1)) hx hb dX4_of_8 (by decide) ?_
    cases h
    exact x_retR C0 rfl dX4_of_9

/-! QuarrelWaysModel.quarrel (II)I -/
def f_X4_quarrel (u : Nat → Int32) (a1 : Int32) (a2 : Int32) : Option (Int32) := ((f_X4_isQuarrel u a1).bind fun x1 => (if x1 = 0 then some (-1 : Int32) else ((f_X4_in a2 (0 : Int32) (7 : Int32)).bind fun x4 => (if x4 = 0 then some (-2 : Int32) else (if a2 = (3 : Int32) then ((f_X4_since u a1).bind fun x13 => some x13) else (if a2 = (7 : Int32) then ((f_X4_waysOf u a1 (0 : Int32)).bind fun x11 => some x11) else ((f_X4_quarrel0 u a1 a2).bind fun x9 => some x9)))))))
abbrev rm_X4_quarrel : Room := { frames := 5, cells := 0, slots := 0, locals := 123 }
theorem hd_X4_quarrel : yX4_quarrel.cls = RX4 ∧ yX4_quarrel.cls ≠ "java/lang/invoke/MethodHandle" ∧ yX4_quarrel.cls ≠ "java/lang/invoke/VarHandle" ∧ (parseMethodDescriptor yX4_quarrel.desc).map (fun d => d.parameters.length) = some 2 := by decide +kernel
set_option maxHeartbeats 4000000 in
set_option maxRecDepth 100000 in
theorem c_X4_quarrel (l : Launch) (D : va_G) (cI cZ cT : ClassId) (o : Nat) (fs : List Value) (a : Nat) (hfs : fs[0]? = some (.ref a)) (u : Nat → Int32) (a1 : Int32) (a2 : Int32) (r : Int32) (h : f_X4_quarrel u a1 a2 = some r) : Met l yX4_quarrel (wq yX4_quarrel cX4_quarrel 3 (some .int)) rm_X4_quarrel (q_R D (q_tys cI cZ cT) (wS cI o fs a u) q_T [.ref o, .int a1, .int a2]) (vp_Si (fun r' => r' = r)) 0 0 (fun _ => False) := by
  refine q_RI (cc := cX4_quarrel) (maxL := 3) (ret := (some .int)) (plainFor_of_name (by decide)) (Nat.le_of_ble_eq_true rfl) (fun p e s m below meth c C0 hP hK hE ls hl => ?_)
  have hl : lv_has ls 3 [(0, .ref o), (1, .int a1), (2, .int a2)] := hl
  obtain ⟨hx, hb, hr, hml, hown, hts, hlocks⟩ := id C0
  have hF : CallFix p m c cX4_quarrel 3 s _ BW RX4 := ⟨hx, hb, hml, hown, hts⟩
  rw [f_X4_quarrel] at h
  refine lv_aload_n hx hb dX4_quarrel_0 rfl (lv_at hl 0 rfl) ?_
  refine lv_iload_n hx hb dX4_quarrel_1 rfl (lv_at hl 1 rfl) ?_
  obtain ⟨x1, h2, h⟩ := bE h
  refine x_RV (As := [.int a1]) (rest := []) hF (c_X4_isQuarrel l D cI cZ cT o fs a hfs u a1 x1 h2) (cwV 1 hts (gqV mw_491 mw_492 mw_493 mw_428 mw_429) rfl rfl rfl hd_X4_isQuarrel ⟨Nat.le_of_ble_eq_true rfl, Nat.le_of_ble_eq_true rfl⟩) hK hP q_T_bl (fun _ _ _ => trivial) [0, 1] rfl rfl rfl rfl hl.1 rfl (Nat.le_of_ble_eq_true rfl) dX4_quarrel_2 ⟨Nat.zero_le _, Nat.zero_le _⟩ ?_
  refine lv_if_ne (tgt := 10) hx hb dX4_quarrel_5 (by decide) (fun c3 => ?_) (fun c3 => ?_)
  · have h := xf c3 h
    refine lv_iload_n hx hb dX4_quarrel_10 rfl (lv_at hl 2 rfl) ?_
    refine lv_iconst (v := 0) hx hb dX4_quarrel_11 (by decide) ?_
    refine lv_bipush (v := 7) hx hb dX4_quarrel_12 (by decide) ?_
    obtain ⟨x4, h5, h⟩ := bE h
    refine x_RS (As := [.int a2, .int (0 : Int32), .int (7 : Int32)]) (rest := []) hF (c_X4_in l D cI cZ cT  a2 (0 : Int32) (7 : Int32) x4 h5) (va_cwS 3 hts (gqS mw_426 mw_427 mw_428 mw_421) rfl rfl rfl hd_X4_in.2 ⟨Nat.le_of_ble_eq_true rfl, Nat.le_of_ble_eq_true rfl⟩) hK hP q_T_bl (fun _ _ _ => trivial) [] rfl rfl hl.1 rfl (Nat.le_of_ble_eq_true rfl) dX4_quarrel_14 ⟨Nat.zero_le _, Nat.zero_le _⟩ ?_
    refine lv_if_ne (tgt := 23) hx hb dX4_quarrel_17 (by decide) (fun c6 => ?_) (fun c6 => ?_)
    · have h := xf c6 h
      refine lv_iload_n hx hb dX4_quarrel_23 rfl (lv_at hl 2 rfl) ?_
      refine lv_iconst (v := 3) hx hb dX4_quarrel_24 (by decide) ?_
      refine lv_icmp_ne (tgt := 36) hx hb dX4_quarrel_25 (by decide) (fun c7 => ?_) (fun c7 => ?_)
      · have h := xf c7 h
        refine lv_iload_n hx hb dX4_quarrel_36 rfl (lv_at hl 2 rfl) ?_
        refine lv_bipush (v := 7) hx hb dX4_quarrel_37 (by decide) ?_
        refine lv_icmp_ne (tgt := 51) hx hb dX4_quarrel_39 (by decide) (fun c8 => ?_) (fun c8 => ?_)
        · have h := xf c8 h
          refine lv_aload_n hx hb dX4_quarrel_51 rfl (lv_at hl 0 rfl) ?_
          refine lv_iload_n hx hb dX4_quarrel_52 rfl (lv_at hl 1 rfl) ?_
          refine lv_iload_n hx hb dX4_quarrel_53 rfl (lv_at hl 2 rfl) ?_
          obtain ⟨x9, h10, h⟩ := bE h
          refine x_RV (As := [.int a1, .int a2]) (rest := []) hF (c_X4_quarrel0 l D cI cZ cT o fs a hfs u a1 a2 x9 h10) (cwV 2 hts (gqV mw_437 mw_438 mw_439 mw_428 mw_431) rfl rfl rfl hd_X4_quarrel0 ⟨Nat.le_of_ble_eq_true rfl, Nat.le_of_ble_eq_true rfl⟩) hK hP q_T_bl (fun _ _ _ => trivial) [0, 1] rfl rfl rfl rfl hl.1 rfl (Nat.le_of_ble_eq_true rfl) dX4_quarrel_54 ⟨Nat.zero_le _, Nat.zero_le _⟩ ?_
          cases h
          exact x_retR C0 rfl dX4_quarrel_57
        · have h := xt c8 h
          refine lv_aload_n hx hb dX4_quarrel_42 rfl (lv_at hl 0 rfl) ?_
          refine lv_iload_n hx hb dX4_quarrel_43 rfl (lv_at hl 1 rfl) ?_
          refine lv_iconst (v := 0) hx hb dX4_quarrel_44 (by decide) ?_
          obtain ⟨x11, h12, h⟩ := bE h
          refine x_RV (As := [.int a1, .int (0 : Int32)]) (rest := []) hF (c_X4_waysOf l D cI cZ cT o fs a hfs u a1 (0 : Int32) x11 h12) (cwV 2 hts (gqV mw_463 mw_464 mw_465 mw_428 mw_462) rfl rfl rfl hd_X4_waysOf ⟨Nat.le_of_ble_eq_true rfl, Nat.le_of_ble_eq_true rfl⟩) hK hP q_T_bl (fun _ _ _ => trivial) [0, 1] rfl rfl rfl rfl hl.1 rfl (Nat.le_of_ble_eq_true rfl) dX4_quarrel_45 ⟨Nat.zero_le _, Nat.zero_le _⟩ ?_
          refine lv_goto (tgt := 57) hx hb dX4_quarrel_48 (by decide) ?_
          cases h
          exact x_retR C0 rfl dX4_quarrel_57
      · have h := xt c7 h
        refine lv_aload_n hx hb dX4_quarrel_28 rfl (lv_at hl 0 rfl) ?_
        refine lv_iload_n hx hb dX4_quarrel_29 rfl (lv_at hl 1 rfl) ?_
        obtain ⟨x13, h14, h⟩ := bE h
        refine x_RV (As := [.int a1]) (rest := []) hF (c_X4_since l D cI cZ cT o fs a hfs u a1 x13 h14) (cwV 1 hts (gqV mw_456 mw_457 mw_458 mw_428 mw_455) rfl rfl rfl hd_X4_since ⟨Nat.le_of_ble_eq_true rfl, Nat.le_of_ble_eq_true rfl⟩) hK hP q_T_bl (fun _ _ _ => trivial) [0, 1] rfl rfl rfl rfl hl.1 rfl (Nat.le_of_ble_eq_true rfl) dX4_quarrel_30 ⟨Nat.zero_le _, Nat.zero_le _⟩ ?_
        refine lv_goto (tgt := 57) hx hb dX4_quarrel_33 (by decide) ?_
        cases h
        exact x_retR C0 rfl dX4_quarrel_57
    · have h := xt c6 h
      refine lv_bipush (v := (-2)) hx hb dX4_quarrel_20 (by decide) ?_
      cases h
      exact x_retR C0 rfl dX4_quarrel_22
  · have h := xt c3 h
    refine lv_iconst (v := (-1)) hx hb dX4_quarrel_8 (by decide) ?_
    cases h
    exact x_retR C0 rfl dX4_quarrel_9

/-! QuarrelWaysModel.record (II)I -/
def f_X4_record (u : Nat → Int32) (a1 : Int32) (a2 : Int32) : Option (Int32) := ((rd u 181 (144 : Int32)).bind fun x1 => ((f_X4_in a1 (0 : Int32) (x1 - (1 : Int32))).bind fun x3 => (if x3 = 0 then some (-1 : Int32) else ((f_X4_in a2 (0 : Int32) (2 : Int32)).bind fun x6 => (if x6 = 0 then some (-2 : Int32) else ((rd u 181 (((145 : Int32) + ((3 : Int32) * a1)) + a2)).bind fun x9 => some x9))))))
abbrev rm_X4_record : Room := { frames := 1, cells := 0, slots := 0, locals := 22 }
theorem hd_X4_record : yX4_record.cls = RX4 ∧ yX4_record.cls ≠ "java/lang/invoke/MethodHandle" ∧ yX4_record.cls ≠ "java/lang/invoke/VarHandle" ∧ (parseMethodDescriptor yX4_record.desc).map (fun d => d.parameters.length) = some 2 := by decide +kernel
set_option maxHeartbeats 4000000 in
set_option maxRecDepth 100000 in
theorem c_X4_record (l : Launch) (D : va_G) (cI cZ cT : ClassId) (o : Nat) (fs : List Value) (a : Nat) (hfs : fs[0]? = some (.ref a)) (u : Nat → Int32) (a1 : Int32) (a2 : Int32) (r : Int32) (h : f_X4_record u a1 a2 = some r) : Met l yX4_record (wq yX4_record cX4_record 3 (some .int)) rm_X4_record (q_R D (q_tys cI cZ cT) (wS cI o fs a u) q_T [.ref o, .int a1, .int a2]) (vp_Si (fun r' => r' = r)) 0 0 (fun _ => False) := by
  refine q_RI (cc := cX4_record) (maxL := 3) (ret := (some .int)) (plainFor_of_name (by decide)) (Nat.le_of_ble_eq_true rfl) (fun p e s m below meth c C0 hP hK hE ls hl => ?_)
  have hl : lv_has ls 3 [(0, .ref o), (1, .int a1), (2, .int a2)] := hl
  obtain ⟨hx, hb, hr, hml, hown, hts, hlocks⟩ := id C0
  have hF : CallFix p m c cX4_record 3 s _ BW RX4 := ⟨hx, hb, hml, hown, hts⟩
  rw [f_X4_record] at h
  refine lv_iload_n hx hb dX4_record_0 rfl (lv_at hl 1 rfl) ?_
  refine lv_iconst (v := 0) hx hb dX4_record_1 (by decide) ?_
  refine lv_aload_n hx hb dX4_record_2 rfl (lv_at hl 0 rfl) ?_
  refine va_get (D := D) (v := .ref a) (C := RX4) (T := TX4) (N := 10) hx hb hts iw_X4 hown hK hP 0 rfl rfl 0 (by decide) (hts _ mw_414) (fun _ h9 => h9) hfs dX4_record_3 ?_
  refine lv_sipush (v := 144) hx hb dX4_record_6 (by decide) ?_
  obtain ⟨x1, h2, h⟩ := bE h
  refine x_iald (cA := cI) hx hb hK hP 1 0 rfl rfl h2 dX4_record_9 ?_
  refine lv_iconst (v := 1) hx hb dX4_record_10 (by decide) ?_
  refine lv_isub hx hb dX4_record_11 ?_
  obtain ⟨x3, h4, h⟩ := bE h
  refine x_RS (As := [.int a1, .int (0 : Int32), .int (x1 - (1 : Int32))]) (rest := []) hF (c_X4_in l D cI cZ cT  a1 (0 : Int32) (x1 - (1 : Int32)) x3 h4) (va_cwS 3 hts (gqS mw_426 mw_427 mw_428 mw_421) rfl rfl rfl hd_X4_in.2 ⟨Nat.le_of_ble_eq_true rfl, Nat.le_of_ble_eq_true rfl⟩) hK hP q_T_bl (fun _ _ _ => trivial) [] rfl rfl hl.1 rfl (Nat.le_of_ble_eq_true rfl) dX4_record_12 ⟨Nat.zero_le _, Nat.zero_le _⟩ ?_
  refine lv_if_ne (tgt := 20) hx hb dX4_record_15 (by decide) (fun c5 => ?_) (fun c5 => ?_)
  · have h := xf c5 h
    refine lv_iload_n hx hb dX4_record_20 rfl (lv_at hl 2 rfl) ?_
    refine lv_iconst (v := 0) hx hb dX4_record_21 (by decide) ?_
    refine lv_iconst (v := 2) hx hb dX4_record_22 (by decide) ?_
    obtain ⟨x6, h7, h⟩ := bE h
    refine x_RS (As := [.int a2, .int (0 : Int32), .int (2 : Int32)]) (rest := []) hF (c_X4_in l D cI cZ cT  a2 (0 : Int32) (2 : Int32) x6 h7) (va_cwS 3 hts (gqS mw_426 mw_427 mw_428 mw_421) rfl rfl rfl hd_X4_in.2 ⟨Nat.le_of_ble_eq_true rfl, Nat.le_of_ble_eq_true rfl⟩) hK hP q_T_bl (fun _ _ _ => trivial) [] rfl rfl hl.1 rfl (Nat.le_of_ble_eq_true rfl) dX4_record_23 ⟨Nat.zero_le _, Nat.zero_le _⟩ ?_
    refine lv_if_eq (tgt := 46) hx hb dX4_record_26 (by decide) (fun c8 => ?_) (fun c8 => ?_)
    · have h := xt c8 h
      refine lv_bipush (v := (-2)) hx hb dX4_record_46 (by decide) ?_
      cases h
      exact x_retR C0 rfl dX4_record_48
    · have h := xf c8 h
      refine lv_aload_n hx hb dX4_record_29 rfl (lv_at hl 0 rfl) ?_
      refine va_get (D := D) (v := .ref a) (C := RX4) (T := TX4) (N := 10) hx hb hts iw_X4 hown hK hP 0 rfl rfl 0 (by decide) (hts _ mw_414) (fun _ h9 => h9) hfs dX4_record_30 ?_
      refine lv_sipush (v := 145) hx hb dX4_record_33 (by decide) ?_
      refine lv_iconst (v := 3) hx hb dX4_record_36 (by decide) ?_
      refine lv_iload_n hx hb dX4_record_37 rfl (lv_at hl 1 rfl) ?_
      refine lv_imul hx hb dX4_record_38 ?_
      refine lv_iadd hx hb dX4_record_39 ?_
      refine lv_iload_n hx hb dX4_record_40 rfl (lv_at hl 2 rfl) ?_
      refine lv_iadd hx hb dX4_record_41 ?_
      obtain ⟨x9, h10, h⟩ := bE h
      refine x_iald (cA := cI) hx hb hK hP 1 0 rfl rfl h10 dX4_record_42 ?_
      refine lv_goto (tgt := 48) hx hb dX4_record_43 (by decide) ?_
      cases h
      exact x_retR C0 rfl dX4_record_48
  · have h := xt c5 h
    refine lv_iconst (v := (-1)) hx hb dX4_record_18 (by decide) ?_
    cases h
    exact x_retR C0 rfl dX4_record_19

/-! QuarrelWaysModel.press (I)I -/
def f_X4_press (u : Nat → Int32) (a1 : Int32) : Option (Int32) := ((f_X4_since u a1).bind fun x1 => ((f_X4_quarrel0 u a1 (2 : Int32)).bind fun x3 => some ((x1 + (1 : Int32)) * x3)))
abbrev rm_X4_press : Room := { frames := 2, cells := 0, slots := 0, locals := 43 }
theorem hd_X4_press : yX4_press.cls = RX4 ∧ yX4_press.cls ≠ "java/lang/invoke/MethodHandle" ∧ yX4_press.cls ≠ "java/lang/invoke/VarHandle" ∧ (parseMethodDescriptor yX4_press.desc).map (fun d => d.parameters.length) = some 1 := by decide +kernel
set_option maxHeartbeats 4000000 in
set_option maxRecDepth 100000 in
theorem c_X4_press (l : Launch) (D : va_G) (cI cZ cT : ClassId) (o : Nat) (fs : List Value) (a : Nat) (hfs : fs[0]? = some (.ref a)) (u : Nat → Int32) (a1 : Int32) (r : Int32) (h : f_X4_press u a1 = some r) : Met l yX4_press (wq yX4_press cX4_press 2 (some .int)) rm_X4_press (q_R D (q_tys cI cZ cT) (wS cI o fs a u) q_T [.ref o, .int a1]) (vp_Si (fun r' => r' = r)) 0 0 (fun _ => False) := by
  refine q_RI (cc := cX4_press) (maxL := 2) (ret := (some .int)) (plainFor_of_name (by decide)) (Nat.le_of_ble_eq_true rfl) (fun p e s m below meth c C0 hP hK hE ls hl => ?_)
  have hl : lv_has ls 2 [(0, .ref o), (1, .int a1)] := hl
  obtain ⟨hx, hb, hr, hml, hown, hts, hlocks⟩ := id C0
  have hF : CallFix p m c cX4_press 2 s _ BW RX4 := ⟨hx, hb, hml, hown, hts⟩
  rw [f_X4_press] at h
  refine lv_aload_n hx hb dX4_press_0 rfl (lv_at hl 0 rfl) ?_
  refine lv_iload_n hx hb dX4_press_1 rfl (lv_at hl 1 rfl) ?_
  obtain ⟨x1, h2, h⟩ := bE h
  refine x_RV (As := [.int a1]) (rest := []) hF (c_X4_since l D cI cZ cT o fs a hfs u a1 x1 h2) (cwV 1 hts (gqV mw_456 mw_457 mw_458 mw_428 mw_455) rfl rfl rfl hd_X4_since ⟨Nat.le_of_ble_eq_true rfl, Nat.le_of_ble_eq_true rfl⟩) hK hP q_T_bl (fun _ _ _ => trivial) [0, 1] rfl rfl rfl rfl hl.1 rfl (Nat.le_of_ble_eq_true rfl) dX4_press_2 ⟨Nat.zero_le _, Nat.zero_le _⟩ ?_
  refine lv_iconst (v := 1) hx hb dX4_press_5 (by decide) ?_
  refine lv_iadd hx hb dX4_press_6 ?_
  refine lv_aload_n hx hb dX4_press_7 rfl (lv_at hl 0 rfl) ?_
  refine lv_iload_n hx hb dX4_press_8 rfl (lv_at hl 1 rfl) ?_
  refine lv_iconst (v := 2) hx hb dX4_press_9 (by decide) ?_
  obtain ⟨x3, h4, h⟩ := bE h
  refine x_RV (As := [.int a1, .int (2 : Int32)]) (rest := [.int (x1 + (1 : Int32))]) hF (c_X4_quarrel0 l D cI cZ cT o fs a hfs u a1 (2 : Int32) x3 h4) (cwV 2 hts (gqV mw_437 mw_438 mw_439 mw_428 mw_431) rfl rfl rfl hd_X4_quarrel0 ⟨Nat.le_of_ble_eq_true rfl, Nat.le_of_ble_eq_true rfl⟩) hK hP q_T_bl (fun _ _ _ => trivial) [0, 1] rfl rfl rfl rfl hl.1 rfl (Nat.le_of_ble_eq_true rfl) dX4_press_10 ⟨Nat.zero_le _, Nat.zero_le _⟩ ?_
  refine lv_imul hx hb dX4_press_13 ?_
  cases h
  exact x_retR C0 rfl dX4_press_14

/-! QuarrelWaysModel.pressing (I)I -/
def f_X4_pressing_L18 (z0 : Nat → Int32) (y1 : Int32) (y2 : Int32) : Nat → Int32 → Int32 → Option (Int32)
  | 0, _, _ => none
  | n + 1, y3, y4 => ((rd z0 181 (47 : Int32)).bind fun x4 => (if x4 ≤ y4 then some y3 else ((f_X4_press z0 y4).bind fun x7 => ((f_X4_press z0 y2).bind fun x9 => (((if x9 < x7 then some (1 : Int32) else ((f_X4_press z0 y4).bind fun x18 => ((f_X4_press z0 y2).bind fun x20 => (if x18 = x20 then (if y2 ≤ y4 then some (0 : Int32) else some (1 : Int32)) else some (0 : Int32))))) : Option (Int32)).bind fun v11 => ((f_X4_quarrel0 z0 y4 (4 : Int32)).bind fun x12 => (((if x12 = 0 then (if v11 = 0 then some (0 : Int32) else some (1 : Int32)) else some (0 : Int32)) : Option (Int32)).bind fun v14 => f_X4_pressing_L18 z0 y1 y2 n (y3 + v14) (y4 + (1 : Int32)))))))))
def f_X4_pressing_L2 (z0 : Nat → Int32) (y1 : Int32) : Nat → Int32 → Option (Int32)
  | 0, _ => none
  | n + 1, y2 => ((rd z0 181 (47 : Int32)).bind fun x1 => (if x1 ≤ y2 then some (-1 : Int32) else ((f_X4_pressing_L18 z0 y1 y2 2000 (0 : Int32) (0 : Int32)).bind fun v24 => ((f_X4_quarrel0 z0 y2 (4 : Int32)).bind fun x26 => (if x26 = 0 then (if v24 = y1 then some y2 else f_X4_pressing_L2 z0 y1 n (y2 + (1 : Int32))) else f_X4_pressing_L2 z0 y1 n (y2 + (1 : Int32)))))))
def f_X4_pressing (u : Nat → Int32) (a1 : Int32) : Option (Int32) := f_X4_pressing_L2 u a1 2000 (0 : Int32)
abbrev rm_X4_pressing : Room := { frames := 3, cells := 0, slots := 0, locals := 64 }
theorem hd_X4_pressing : yX4_pressing.cls = RX4 ∧ yX4_pressing.cls ≠ "java/lang/invoke/MethodHandle" ∧ yX4_pressing.cls ≠ "java/lang/invoke/VarHandle" ∧ (parseMethodDescriptor yX4_pressing.desc).map (fun d => d.parameters.length) = some 1 := by decide +kernel
set_option maxHeartbeats 4000000 in
set_option maxRecDepth 100000 in
theorem k_X4_pressing_L18 {Q : State → Prop} {v : Int32} (o : Nat) (fs : List Value) (a : Nat) (hfs : fs[0]? = some (.ref a)) (z0 : Nat → Int32) (y1 : Int32) (y2 : Int32) (C0 : q_At p s m args meth c cX4_pressing 6 (some .int) RX4) (hK : va_K D vwCl (q_tys cI cZ cT) s) (hP : va_P D vwCl (wS cI o fs a z0) s.heap) (hj : ∀ (ls : Array Slot), lv_has ls 6 [(0, .ref o), (1, .int y1), (2, .int y2), (3, .int v)] → W p l e rm_X4_pressing s m args below meth c s.heap [] 0 0 Q (F0 m 100 ls [])) : ∀ (n : Nat) (y3 : Int32) (y4 : Int32) (ls : Array Slot), lv_has ls 6 [(0, .ref o), (1, .int y1), (2, .int y2), (3, .int y3), (4, .int y4)] → f_X4_pressing_L18 z0 y1 y2 n y3 y4 = some v → W p l e rm_X4_pressing s m args below meth c s.heap [] 0 0 (Q) (F0 m 18 ls []) := by
  obtain ⟨hx, hb, hr, hml, hown, hts, hlocks⟩ := id C0
  have hF : CallFix p m c cX4_pressing 6 s args BW RX4 := ⟨hx, hb, hml, hown, hts⟩
  intro n
  induction n with
  | zero =>
    intro y3 y4 ls hl h
    rw [f_X4_pressing_L18] at h
    cases h
  | succ n ih =>
    intro y3 y4 ls hl h
    rw [f_X4_pressing_L18] at h
    refine lv_iload hx hb dX4_pressing_18 (lv_at hl 4 rfl) ?_
    refine lv_aload_n hx hb dX4_pressing_20 rfl (lv_at hl 0 rfl) ?_
    refine va_get (D := D) (v := .ref a) (C := RX4) (T := TX4) (N := 10) hx hb hts iw_X4 hown hK hP 0 rfl rfl 0 (by decide) (hts _ mw_414) (fun _ h9 => h9) hfs dX4_pressing_21 ?_
    refine lv_bipush (v := 47) hx hb dX4_pressing_24 (by decide) ?_
    obtain ⟨x4, h5, h⟩ := bE h
    refine x_iald (cA := cI) hx hb hK hP 1 0 rfl rfl h5 dX4_pressing_26 ?_
    refine lv_icmp_ge (tgt := 100) hx hb dX4_pressing_27 (by decide) (fun c6 => ?_) (fun c6 => ?_)
    · have h := xt c6 h
      cases h
      exact hj _ (lv_sub hl [0, 1, 2, 3] rfl)
    · have h := xf c6 h
      refine lv_aload_n hx hb dX4_pressing_30 rfl (lv_at hl 0 rfl) ?_
      refine lv_iload hx hb dX4_pressing_31 (lv_at hl 4 rfl) ?_
      obtain ⟨x7, h8, h⟩ := bE h
      refine x_RV (As := [.int y4]) (rest := []) hF (c_X4_press l D cI cZ cT o fs a hfs z0 y4 x7 h8) (cwV 1 hts (gqV mw_571 mw_572 mw_573 mw_428 mw_569) rfl rfl rfl hd_X4_press ⟨Nat.le_of_ble_eq_true rfl, Nat.le_of_ble_eq_true rfl⟩) hK hP q_T_bl (fun _ _ _ => trivial) [0, 1] rfl rfl rfl rfl hl.1 rfl (Nat.le_of_ble_eq_true rfl) dX4_pressing_33 ⟨Nat.zero_le _, Nat.zero_le _⟩ ?_
      refine lv_aload_n hx hb dX4_pressing_36 rfl (lv_at hl 0 rfl) ?_
      refine lv_iload_n hx hb dX4_pressing_37 rfl (lv_at hl 2 rfl) ?_
      obtain ⟨x9, h10, h⟩ := bE h
      refine x_RV (As := [.int y2]) (rest := [.int x7]) hF (c_X4_press l D cI cZ cT o fs a hfs z0 y2 x9 h10) (cwV 1 hts (gqV mw_571 mw_572 mw_573 mw_428 mw_569) rfl rfl rfl hd_X4_press ⟨Nat.le_of_ble_eq_true rfl, Nat.le_of_ble_eq_true rfl⟩) hK hP q_T_bl (fun _ _ _ => trivial) [0, 1] rfl rfl rfl rfl hl.1 rfl (Nat.le_of_ble_eq_true rfl) dX4_pressing_38 ⟨Nat.zero_le _, Nat.zero_le _⟩ ?_
      refine x_j (V := Int32) (nL := 6) (fun v11 => [(0, .ref o), (1, .int y1), (2, .int y2), (3, .int y3), (4, .int y4)]) 69 (fun v11 => [.int v11]) h (fun v11 h ls hl => ?_) (fun v11 h hj => ?_)
      · refine lv_istore (lv' := [(5, .int v11), (0, .ref o), (1, .int y1), (2, .int y2), (3, .int y3), (4, .int y4)]) hx hb dX4_pressing_69 hl (by decide) rfl (fun ls hl => ?_)
        refine lv_iload_n hx hb dX4_pressing_71 rfl (lv_at hl 4 rfl) ?_
        refine lv_aload_n hx hb dX4_pressing_72 rfl (lv_at hl 1 rfl) ?_
        refine lv_iload hx hb dX4_pressing_73 (lv_at hl 5 rfl) ?_
        refine lv_iconst (v := 4) hx hb dX4_pressing_75 (by decide) ?_
        obtain ⟨x12, h13, h⟩ := bE h
        refine x_RV (As := [.int y4, .int (4 : Int32)]) (rest := [.int y3]) hF (c_X4_quarrel0 l D cI cZ cT o fs a hfs z0 y4 (4 : Int32) x12 h13) (cwV 2 hts (gqV mw_437 mw_438 mw_439 mw_428 mw_431) rfl rfl rfl hd_X4_quarrel0 ⟨Nat.le_of_ble_eq_true rfl, Nat.le_of_ble_eq_true rfl⟩) hK hP q_T_bl (fun _ _ _ => trivial) [0, 1] rfl rfl rfl rfl hl.1 rfl (Nat.le_of_ble_eq_true rfl) dX4_pressing_76 ⟨Nat.zero_le _, Nat.zero_le _⟩ ?_
        refine x_j (V := Int32) (nL := 6) (fun v14 => [(0, .ref o), (1, .int y1), (2, .int y2), (4, .int y4)]) 92 (fun v14 => [.int v14, .int y3]) h (fun v14 h ls hl => ?_) (fun v14 h hj => ?_)
        · refine lv_iadd hx hb dX4_pressing_92 ?_
          refine lv_istore_n (lv' := [(3, .int (y3 + v14)), (0, .ref o), (1, .int y1), (2, .int y2), (4, .int y4)]) hx hb dX4_pressing_93 rfl hl (by decide) rfl (fun ls hl => ?_)
          refine lv_iinc (v := (y4 + (1 : Int32))) (lv' := [(4, .int (y4 + (1 : Int32))), (3, .int (y3 + v14)), (0, .ref o), (1, .int y1), (2, .int y2)]) hx hb dX4_pressing_94 hl (k := 4) rfl rfl (by decide) rfl (fun ls hl => ?_)
          refine lv_goto (tgt := 18) hx hb dX4_pressing_97 (by decide) ?_
          exact ih (y3 + v14) (y4 + (1 : Int32)) _ (lv_sub hl [2, 3, 4, 1, 0] rfl) h
        · refine lv_if_ne (tgt := 91) hx hb dX4_pressing_79 (by decide) (fun c15 => ?_) (fun c15 => ?_)
          · have h := xf c15 h
            refine lv_iconst (v := 0) hx hb dX4_pressing_91 (by decide) ?_
            cases h
            exact hj _ (lv_sub hl [1, 2, 3, 5] rfl)
          · have h := xt c15 h
            refine lv_iload hx hb dX4_pressing_82 (lv_at hl 0 rfl) ?_
            refine lv_if_eq (tgt := 91) hx hb dX4_pressing_84 (by decide) (fun c16 => ?_) (fun c16 => ?_)
            · have h := xt c16 h
              refine lv_iconst (v := 0) hx hb dX4_pressing_91 (by decide) ?_
              cases h
              exact hj _ (lv_sub hl [1, 2, 3, 5] rfl)
            · have h := xf c16 h
              refine lv_iconst (v := 1) hx hb dX4_pressing_87 (by decide) ?_
              refine lv_goto (tgt := 92) hx hb dX4_pressing_88 (by decide) ?_
              cases h
              exact hj _ (lv_sub hl [1, 2, 3, 5] rfl)
      · refine lv_icmp_gt (tgt := 64) hx hb dX4_pressing_41 (by decide) (fun c17 => ?_) (fun c17 => ?_)
        · have h := xt c17 h
          refine lv_iconst (v := 1) hx hb dX4_pressing_64 (by decide) ?_
          refine lv_goto (tgt := 69) hx hb dX4_pressing_65 (by decide) ?_
          cases h
          exact hj _ (lv_sub hl [0, 1, 2, 3, 4] rfl)
        · have h := xf c17 h
          refine lv_aload_n hx hb dX4_pressing_44 rfl (lv_at hl 0 rfl) ?_
          refine lv_iload hx hb dX4_pressing_45 (lv_at hl 4 rfl) ?_
          obtain ⟨x18, h19, h⟩ := bE h
          refine x_RV (As := [.int y4]) (rest := []) hF (c_X4_press l D cI cZ cT o fs a hfs z0 y4 x18 h19) (cwV 1 hts (gqV mw_571 mw_572 mw_573 mw_428 mw_569) rfl rfl rfl hd_X4_press ⟨Nat.le_of_ble_eq_true rfl, Nat.le_of_ble_eq_true rfl⟩) hK hP q_T_bl (fun _ _ _ => trivial) [0, 1] rfl rfl rfl rfl hl.1 rfl (Nat.le_of_ble_eq_true rfl) dX4_pressing_47 ⟨Nat.zero_le _, Nat.zero_le _⟩ ?_
          refine lv_aload_n hx hb dX4_pressing_50 rfl (lv_at hl 0 rfl) ?_
          refine lv_iload_n hx hb dX4_pressing_51 rfl (lv_at hl 2 rfl) ?_
          obtain ⟨x20, h21, h⟩ := bE h
          refine x_RV (As := [.int y2]) (rest := [.int x18]) hF (c_X4_press l D cI cZ cT o fs a hfs z0 y2 x20 h21) (cwV 1 hts (gqV mw_571 mw_572 mw_573 mw_428 mw_569) rfl rfl rfl hd_X4_press ⟨Nat.le_of_ble_eq_true rfl, Nat.le_of_ble_eq_true rfl⟩) hK hP q_T_bl (fun _ _ _ => trivial) [0, 1] rfl rfl rfl rfl hl.1 rfl (Nat.le_of_ble_eq_true rfl) dX4_pressing_52 ⟨Nat.zero_le _, Nat.zero_le _⟩ ?_
          refine lv_icmp_ne (tgt := 68) hx hb dX4_pressing_55 (by decide) (fun c22 => ?_) (fun c22 => ?_)
          · have h := xf c22 h
            refine lv_iconst (v := 0) hx hb dX4_pressing_68 (by decide) ?_
            cases h
            exact hj _ (lv_sub hl [0, 1, 2, 3, 4] rfl)
          · have h := xt c22 h
            refine lv_iload hx hb dX4_pressing_58 (lv_at hl 4 rfl) ?_
            refine lv_iload_n hx hb dX4_pressing_60 rfl (lv_at hl 2 rfl) ?_
            refine lv_icmp_ge (tgt := 68) hx hb dX4_pressing_61 (by decide) (fun c23 => ?_) (fun c23 => ?_)
            · have h := xt c23 h
              refine lv_iconst (v := 0) hx hb dX4_pressing_68 (by decide) ?_
              cases h
              exact hj _ (lv_sub hl [0, 1, 2, 3, 4] rfl)
            · have h := xf c23 h
              refine lv_iconst (v := 1) hx hb dX4_pressing_64 (by decide) ?_
              refine lv_goto (tgt := 69) hx hb dX4_pressing_65 (by decide) ?_
              cases h
              exact hj _ (lv_sub hl [0, 1, 2, 3, 4] rfl)
set_option maxHeartbeats 4000000 in
set_option maxRecDepth 100000 in
theorem k_X4_pressing_L2 {r : Int32} (o : Nat) (fs : List Value) (a : Nat) (hfs : fs[0]? = some (.ref a)) (z0 : Nat → Int32) (y1 : Int32) (C0 : q_At p s m args meth c cX4_pressing 6 (some .int) RX4) (hK : va_K D vwCl (q_tys cI cZ cT) s) (hP : va_P D vwCl (wS cI o fs a z0) s.heap) : ∀ (n : Nat) (y2 : Int32) (ls : Array Slot), lv_has ls 6 [(0, .ref o), (1, .int y1), (2, .int y2)] → f_X4_pressing_L2 z0 y1 n y2 = some r → W p l e rm_X4_pressing s m args below meth c s.heap [] 0 0 (q_QR below args s r) (F0 m 2 ls []) := by
  obtain ⟨hx, hb, hr, hml, hown, hts, hlocks⟩ := id C0
  have hF : CallFix p m c cX4_pressing 6 s args BW RX4 := ⟨hx, hb, hml, hown, hts⟩
  intro n
  induction n with
  | zero =>
    intro y2 ls hl h
    rw [f_X4_pressing_L2] at h
    cases h
  | succ n ih =>
    intro y2 ls hl h
    rw [f_X4_pressing_L2] at h
    refine lv_iload_n hx hb dX4_pressing_2 rfl (lv_at hl 2 rfl) ?_
    refine lv_aload_n hx hb dX4_pressing_3 rfl (lv_at hl 0 rfl) ?_
    refine va_get (D := D) (v := .ref a) (C := RX4) (T := TX4) (N := 10) hx hb hts iw_X4 hown hK hP 0 rfl rfl 0 (by decide) (hts _ mw_414) (fun _ h9 => h9) hfs dX4_pressing_4 ?_
    refine lv_bipush (v := 47) hx hb dX4_pressing_7 (by decide) ?_
    obtain ⟨x1, h2, h⟩ := bE h
    refine x_iald (cA := cI) hx hb hK hP 1 0 rfl rfl h2 dX4_pressing_9 ?_
    refine lv_icmp_ge (tgt := 122) hx hb dX4_pressing_10 (by decide) (fun c3 => ?_) (fun c3 => ?_)
    · have h := xt c3 h
      refine lv_iconst (v := (-1)) hx hb dX4_pressing_122 (by decide) ?_
      cases h
      exact x_retR C0 rfl dX4_pressing_123
    · have h := xf c3 h
      refine lv_iconst (v := 0) hx hb dX4_pressing_13 (by decide) ?_
      refine lv_istore_n (lv' := [(3, .int (0 : Int32)), (0, .ref o), (1, .int y1), (2, .int y2)]) hx hb dX4_pressing_14 rfl hl (by decide) rfl (fun ls hl => ?_)
      refine lv_iconst (v := 0) hx hb dX4_pressing_15 (by decide) ?_
      refine lv_istore (lv' := [(4, .int (0 : Int32)), (3, .int (0 : Int32)), (0, .ref o), (1, .int y1), (2, .int y2)]) hx hb dX4_pressing_16 hl (by decide) rfl (fun ls hl => ?_)
      obtain ⟨v24, h25, h⟩ := bE h
      refine k_X4_pressing_L18 (v := v24) o fs a hfs z0 y1 y2 C0 hK hP (fun ls hl => ?_) 2000 (0 : Int32) (0 : Int32) _ (lv_sub hl [2, 3, 4, 1, 0] rfl) h25
      refine lv_aload_n hx hb dX4_pressing_100 rfl (lv_at hl 0 rfl) ?_
      refine lv_iload_n hx hb dX4_pressing_101 rfl (lv_at hl 2 rfl) ?_
      refine lv_iconst (v := 4) hx hb dX4_pressing_102 (by decide) ?_
      obtain ⟨x26, h27, h⟩ := bE h
      refine x_RV (As := [.int y2, .int (4 : Int32)]) (rest := []) hF (c_X4_quarrel0 l D cI cZ cT o fs a hfs z0 y2 (4 : Int32) x26 h27) (cwV 2 hts (gqV mw_437 mw_438 mw_439 mw_428 mw_431) rfl rfl rfl hd_X4_quarrel0 ⟨Nat.le_of_ble_eq_true rfl, Nat.le_of_ble_eq_true rfl⟩) hK hP q_T_bl (fun _ _ _ => trivial) [0, 1] rfl rfl rfl rfl hl.1 rfl (Nat.le_of_ble_eq_true rfl) dX4_pressing_103 ⟨Nat.zero_le _, Nat.zero_le _⟩ ?_
      refine lv_if_ne (tgt := 116) hx hb dX4_pressing_106 (by decide) (fun c28 => ?_) (fun c28 => ?_)
      · have h := xf c28 h
        refine lv_iinc (v := (y2 + (1 : Int32))) (lv' := [(2, .int (y2 + (1 : Int32))), (0, .ref o), (1, .int y1), (3, .int v24)]) hx hb dX4_pressing_116 hl (k := 2) rfl rfl (by decide) rfl (fun ls hl => ?_)
        refine lv_goto (tgt := 2) hx hb dX4_pressing_119 (by decide) ?_
        exact ih (y2 + (1 : Int32)) _ (lv_sub hl [1, 2, 0] rfl) h
      · have h := xt c28 h
        refine lv_iload_n hx hb dX4_pressing_109 rfl (lv_at hl 3 rfl) ?_
        refine lv_iload_n hx hb dX4_pressing_110 rfl (lv_at hl 1 rfl) ?_
        refine lv_icmp_ne (tgt := 116) hx hb dX4_pressing_111 (by decide) (fun c29 => ?_) (fun c29 => ?_)
        · have h := xf c29 h
          refine lv_iinc (v := (y2 + (1 : Int32))) (lv' := [(2, .int (y2 + (1 : Int32))), (0, .ref o), (1, .int y1), (3, .int v24)]) hx hb dX4_pressing_116 hl (k := 2) rfl rfl (by decide) rfl (fun ls hl => ?_)
          refine lv_goto (tgt := 2) hx hb dX4_pressing_119 (by decide) ?_
          exact ih (y2 + (1 : Int32)) _ (lv_sub hl [1, 2, 0] rfl) h
        · have h := xt c29 h
          refine lv_iload_n hx hb dX4_pressing_114 rfl (lv_at hl 2 rfl) ?_
          cases h
          exact x_retR C0 rfl dX4_pressing_115
set_option maxHeartbeats 4000000 in
set_option maxRecDepth 100000 in
theorem c_X4_pressing (l : Launch) (D : va_G) (cI cZ cT : ClassId) (o : Nat) (fs : List Value) (a : Nat) (hfs : fs[0]? = some (.ref a)) (u : Nat → Int32) (a1 : Int32) (r : Int32) (h : f_X4_pressing u a1 = some r) : Met l yX4_pressing (wq yX4_pressing cX4_pressing 6 (some .int)) rm_X4_pressing (q_R D (q_tys cI cZ cT) (wS cI o fs a u) q_T [.ref o, .int a1]) (vp_Si (fun r' => r' = r)) 0 0 (fun _ => False) := by
  refine q_RI (cc := cX4_pressing) (maxL := 6) (ret := (some .int)) (plainFor_of_name (by decide)) (Nat.le_of_ble_eq_true rfl) (fun p e s m below meth c C0 hP hK hE ls hl => ?_)
  have hl : lv_has ls 6 [(0, .ref o), (1, .int a1)] := hl
  obtain ⟨hx, hb, hr, hml, hown, hts, hlocks⟩ := id C0
  have hF : CallFix p m c cX4_pressing 6 s _ BW RX4 := ⟨hx, hb, hml, hown, hts⟩
  rw [f_X4_pressing] at h
  refine lv_iconst (v := 0) hx hb dX4_pressing_0 (by decide) ?_
  refine lv_istore_n (lv' := [(2, .int (0 : Int32)), (0, .ref o), (1, .int a1)]) hx hb dX4_pressing_1 rfl hl (by decide) rfl (fun ls hl => ?_)
  exact k_X4_pressing_L2 o fs a hfs u a1 C0 hK hP 2000 (0 : Int32) _ (lv_sub hl [1, 2, 0] rfl) h

/-! QuarrelWaysModel.insults (I)I -/
def f_X4_insults_L17 (z0 : Nat → Int32) (y1 : Int32) : Nat → Int32 → Int32 → Option (Int32)
  | 0, _, _ => none
  | n + 1, y2, y3 => ((rd z0 181 (47 : Int32)).bind fun x4 => (if x4 ≤ y3 then some y2 else ((f_X4_quarrel0 z0 y3 (2 : Int32)).bind fun x7 => (((if x7 < y1 then some (0 : Int32) else some (1 : Int32)) : Option (Int32)).bind fun v9 => f_X4_insults_L17 z0 y1 n (y2 + v9) (y3 + (1 : Int32))))))
def f_X4_insults (u : Nat → Int32) (a1 : Int32) : Option (Int32) := ((f_X4_in a1 (1 : Int32) (9 : Int32)).bind fun x1 => (if x1 = 0 then some (-2 : Int32) else ((f_X4_insults_L17 u a1 2000 (0 : Int32) (0 : Int32)).bind fun v11 => some v11)))
abbrev rm_X4_insults : Room := { frames := 1, cells := 0, slots := 0, locals := 22 }
theorem hd_X4_insults : yX4_insults.cls = RX4 ∧ yX4_insults.cls ≠ "java/lang/invoke/MethodHandle" ∧ yX4_insults.cls ≠ "java/lang/invoke/VarHandle" ∧ (parseMethodDescriptor yX4_insults.desc).map (fun d => d.parameters.length) = some 1 := by decide +kernel
set_option maxHeartbeats 4000000 in
set_option maxRecDepth 100000 in
theorem k_X4_insults_L17 {Q : State → Prop} {v : Int32} (o : Nat) (fs : List Value) (a : Nat) (hfs : fs[0]? = some (.ref a)) (z0 : Nat → Int32) (y1 : Int32) (C0 : q_At p s m args meth c cX4_insults 4 (some .int) RX4) (hK : va_K D vwCl (q_tys cI cZ cT) s) (hP : va_P D vwCl (wS cI o fs a z0) s.heap) (hj : ∀ (ls : Array Slot), lv_has ls 4 [(2, .int v)] → W p l e rm_X4_insults s m args below meth c s.heap [] 0 0 Q (F0 m 52 ls [])) : ∀ (n : Nat) (y2 : Int32) (y3 : Int32) (ls : Array Slot), lv_has ls 4 [(0, .ref o), (1, .int y1), (2, .int y2), (3, .int y3)] → f_X4_insults_L17 z0 y1 n y2 y3 = some v → W p l e rm_X4_insults s m args below meth c s.heap [] 0 0 (Q) (F0 m 17 ls []) := by
  obtain ⟨hx, hb, hr, hml, hown, hts, hlocks⟩ := id C0
  have hF : CallFix p m c cX4_insults 4 s args BW RX4 := ⟨hx, hb, hml, hown, hts⟩
  intro n
  induction n with
  | zero =>
    intro y2 y3 ls hl h
    rw [f_X4_insults_L17] at h
    cases h
  | succ n ih =>
    intro y2 y3 ls hl h
    rw [f_X4_insults_L17] at h
    refine lv_iload_n hx hb dX4_insults_17 rfl (lv_at hl 3 rfl) ?_
    refine lv_aload_n hx hb dX4_insults_18 rfl (lv_at hl 0 rfl) ?_
    refine va_get (D := D) (v := .ref a) (C := RX4) (T := TX4) (N := 10) hx hb hts iw_X4 hown hK hP 0 rfl rfl 0 (by decide) (hts _ mw_414) (fun _ h9 => h9) hfs dX4_insults_19 ?_
    refine lv_bipush (v := 47) hx hb dX4_insults_22 (by decide) ?_
    obtain ⟨x4, h5, h⟩ := bE h
    refine x_iald (cA := cI) hx hb hK hP 1 0 rfl rfl h5 dX4_insults_24 ?_
    refine lv_icmp_ge (tgt := 52) hx hb dX4_insults_25 (by decide) (fun c6 => ?_) (fun c6 => ?_)
    · have h := xt c6 h
      cases h
      exact hj _ (lv_sub hl [2] rfl)
    · have h := xf c6 h
      refine lv_iload_n hx hb dX4_insults_28 rfl (lv_at hl 2 rfl) ?_
      refine lv_aload_n hx hb dX4_insults_29 rfl (lv_at hl 0 rfl) ?_
      refine lv_iload_n hx hb dX4_insults_30 rfl (lv_at hl 3 rfl) ?_
      refine lv_iconst (v := 2) hx hb dX4_insults_31 (by decide) ?_
      obtain ⟨x7, h8, h⟩ := bE h
      refine x_RV (As := [.int y3, .int (2 : Int32)]) (rest := [.int y2]) hF (c_X4_quarrel0 l D cI cZ cT o fs a hfs z0 y3 (2 : Int32) x7 h8) (cwV 2 hts (gqV mw_437 mw_438 mw_439 mw_428 mw_431) rfl rfl rfl hd_X4_quarrel0 ⟨Nat.le_of_ble_eq_true rfl, Nat.le_of_ble_eq_true rfl⟩) hK hP q_T_bl (fun _ _ _ => trivial) [0, 1] rfl rfl rfl rfl hl.1 rfl (Nat.le_of_ble_eq_true rfl) dX4_insults_32 ⟨Nat.zero_le _, Nat.zero_le _⟩ ?_
      refine lv_iload_n hx hb dX4_insults_35 rfl (lv_at hl 1 rfl) ?_
      refine x_j (V := Int32) (nL := 4) (fun v9 => [(0, .ref o), (1, .int y1), (3, .int y3)]) 44 (fun v9 => [.int v9, .int y2]) h (fun v9 h ls hl => ?_) (fun v9 h hj => ?_)
      · refine lv_iadd hx hb dX4_insults_44 ?_
        refine lv_istore_n (lv' := [(2, .int (y2 + v9)), (0, .ref o), (1, .int y1), (3, .int y3)]) hx hb dX4_insults_45 rfl hl (by decide) rfl (fun ls hl => ?_)
        refine lv_iinc (v := (y3 + (1 : Int32))) (lv' := [(3, .int (y3 + (1 : Int32))), (2, .int (y2 + v9)), (0, .ref o), (1, .int y1)]) hx hb dX4_insults_46 hl (k := 3) rfl rfl (by decide) rfl (fun ls hl => ?_)
        refine lv_goto (tgt := 17) hx hb dX4_insults_49 (by decide) ?_
        exact ih (y2 + v9) (y3 + (1 : Int32)) _ (lv_sub hl [2, 3, 1, 0] rfl) h
      · refine lv_icmp_lt (tgt := 43) hx hb dX4_insults_36 (by decide) (fun c10 => ?_) (fun c10 => ?_)
        · have h := xt c10 h
          refine lv_iconst (v := 0) hx hb dX4_insults_43 (by decide) ?_
          cases h
          exact hj _ (lv_sub hl [0, 1, 3] rfl)
        · have h := xf c10 h
          refine lv_iconst (v := 1) hx hb dX4_insults_39 (by decide) ?_
          refine lv_goto (tgt := 44) hx hb dX4_insults_40 (by decide) ?_
          cases h
          exact hj _ (lv_sub hl [0, 1, 3] rfl)
set_option maxHeartbeats 4000000 in
set_option maxRecDepth 100000 in
theorem c_X4_insults (l : Launch) (D : va_G) (cI cZ cT : ClassId) (o : Nat) (fs : List Value) (a : Nat) (hfs : fs[0]? = some (.ref a)) (u : Nat → Int32) (a1 : Int32) (r : Int32) (h : f_X4_insults u a1 = some r) : Met l yX4_insults (wq yX4_insults cX4_insults 4 (some .int)) rm_X4_insults (q_R D (q_tys cI cZ cT) (wS cI o fs a u) q_T [.ref o, .int a1]) (vp_Si (fun r' => r' = r)) 0 0 (fun _ => False) := by
  refine q_RI (cc := cX4_insults) (maxL := 4) (ret := (some .int)) (plainFor_of_name (by decide)) (Nat.le_of_ble_eq_true rfl) (fun p e s m below meth c C0 hP hK hE ls hl => ?_)
  have hl : lv_has ls 4 [(0, .ref o), (1, .int a1)] := hl
  obtain ⟨hx, hb, hr, hml, hown, hts, hlocks⟩ := id C0
  have hF : CallFix p m c cX4_insults 4 s _ BW RX4 := ⟨hx, hb, hml, hown, hts⟩
  rw [f_X4_insults] at h
  refine lv_iload_n hx hb dX4_insults_0 rfl (lv_at hl 1 rfl) ?_
  refine lv_iconst (v := 1) hx hb dX4_insults_1 (by decide) ?_
  refine lv_bipush (v := 9) hx hb dX4_insults_2 (by decide) ?_
  obtain ⟨x1, h2, h⟩ := bE h
  refine x_RS (As := [.int a1, .int (1 : Int32), .int (9 : Int32)]) (rest := []) hF (c_X4_in l D cI cZ cT  a1 (1 : Int32) (9 : Int32) x1 h2) (va_cwS 3 hts (gqS mw_426 mw_427 mw_428 mw_421) rfl rfl rfl hd_X4_in.2 ⟨Nat.le_of_ble_eq_true rfl, Nat.le_of_ble_eq_true rfl⟩) hK hP q_T_bl (fun _ _ _ => trivial) [] rfl rfl hl.1 rfl (Nat.le_of_ble_eq_true rfl) dX4_insults_4 ⟨Nat.zero_le _, Nat.zero_le _⟩ ?_
  refine lv_if_ne (tgt := 13) hx hb dX4_insults_7 (by decide) (fun c3 => ?_) (fun c3 => ?_)
  · have h := xf c3 h
    refine lv_iconst (v := 0) hx hb dX4_insults_13 (by decide) ?_
    refine lv_istore_n (lv' := [(2, .int (0 : Int32)), (0, .ref o), (1, .int a1)]) hx hb dX4_insults_14 rfl hl (by decide) rfl (fun ls hl => ?_)
    refine lv_iconst (v := 0) hx hb dX4_insults_15 (by decide) ?_
    refine lv_istore_n (lv' := [(3, .int (0 : Int32)), (2, .int (0 : Int32)), (0, .ref o), (1, .int a1)]) hx hb dX4_insults_16 rfl hl (by decide) rfl (fun ls hl => ?_)
    obtain ⟨v11, h12, h⟩ := bE h
    refine k_X4_insults_L17 (v := v11) o fs a hfs u a1 C0 hK hP (fun ls hl => ?_) 2000 (0 : Int32) (0 : Int32) _ (lv_sub hl [2, 3, 1, 0] rfl) h12
    refine lv_iload_n hx hb dX4_insults_52 rfl (lv_at hl 0 rfl) ?_
    cases h
    exact x_retR C0 rfl dX4_insults_53
  · have h := xt c3 h
    refine lv_bipush (v := (-2)) hx hb dX4_insults_10 (by decide) ?_
    cases h
    exact x_retR C0 rfl dX4_insults_12

/-! QuarrelWaysModel.sworn ()I -/
def f_X4_sworn_L4 (z0 : Nat → Int32) : Nat → Int32 → Int32 → Option (Int32)
  | 0, _, _ => none
  | n + 1, y1, y2 => ((rd z0 181 (5 : Int32)).bind fun x1 => (if x1 ≤ y2 then some y1 else ((f_X4_isUnderOath z0 y2 (0 : Int32)).bind fun x4 => (((if x4 = 0 then some (0 : Int32) else some ((1 : Int32) <<< (y2 &&& 31))) : Option (Int32)).bind fun v6 => f_X4_sworn_L4 z0 n (y1 ||| v6) (y2 + (1 : Int32))))))
def f_X4_sworn (u : Nat → Int32) : Option (Int32) := ((f_X4_sworn_L4 u 2000 (0 : Int32) (0 : Int32)).bind fun v8 => some v8)
abbrev rm_X4_sworn : Room := { frames := 2, cells := 0, slots := 0, locals := 44 }
theorem hd_X4_sworn : yX4_sworn.cls = RX4 ∧ yX4_sworn.cls ≠ "java/lang/invoke/MethodHandle" ∧ yX4_sworn.cls ≠ "java/lang/invoke/VarHandle" ∧ (parseMethodDescriptor yX4_sworn.desc).map (fun d => d.parameters.length) = some 0 := by decide +kernel
set_option maxHeartbeats 4000000 in
set_option maxRecDepth 100000 in
theorem k_X4_sworn_L4 {Q : State → Prop} {v : Int32} (o : Nat) (fs : List Value) (a : Nat) (hfs : fs[0]? = some (.ref a)) (z0 : Nat → Int32) (C0 : q_At p s m args meth c cX4_sworn 3 (some .int) RX4) (hK : va_K D vwCl (q_tys cI cZ cT) s) (hP : va_P D vwCl (wS cI o fs a z0) s.heap) (hj : ∀ (ls : Array Slot), lv_has ls 3 [(1, .int v)] → W p l e rm_X4_sworn s m args below meth c s.heap [] 0 0 Q (F0 m 39 ls [])) : ∀ (n : Nat) (y1 : Int32) (y2 : Int32) (ls : Array Slot), lv_has ls 3 [(0, .ref o), (1, .int y1), (2, .int y2)] → f_X4_sworn_L4 z0 n y1 y2 = some v → W p l e rm_X4_sworn s m args below meth c s.heap [] 0 0 (Q) (F0 m 4 ls []) := by
  obtain ⟨hx, hb, hr, hml, hown, hts, hlocks⟩ := id C0
  have hF : CallFix p m c cX4_sworn 3 s args BW RX4 := ⟨hx, hb, hml, hown, hts⟩
  intro n
  induction n with
  | zero =>
    intro y1 y2 ls hl h
    rw [f_X4_sworn_L4] at h
    cases h
  | succ n ih =>
    intro y1 y2 ls hl h
    rw [f_X4_sworn_L4] at h
    refine lv_iload_n hx hb dX4_sworn_4 rfl (lv_at hl 2 rfl) ?_
    refine lv_aload_n hx hb dX4_sworn_5 rfl (lv_at hl 0 rfl) ?_
    refine va_get (D := D) (v := .ref a) (C := RX4) (T := TX4) (N := 10) hx hb hts iw_X4 hown hK hP 0 rfl rfl 0 (by decide) (hts _ mw_414) (fun _ h9 => h9) hfs dX4_sworn_6 ?_
    refine lv_iconst (v := 5) hx hb dX4_sworn_9 (by decide) ?_
    obtain ⟨x1, h2, h⟩ := bE h
    refine x_iald (cA := cI) hx hb hK hP 1 0 rfl rfl h2 dX4_sworn_10 ?_
    refine lv_icmp_ge (tgt := 39) hx hb dX4_sworn_11 (by decide) (fun c3 => ?_) (fun c3 => ?_)
    · have h := xt c3 h
      cases h
      exact hj _ (lv_sub hl [1] rfl)
    · have h := xf c3 h
      refine lv_iload_n hx hb dX4_sworn_14 rfl (lv_at hl 1 rfl) ?_
      refine lv_aload_n hx hb dX4_sworn_15 rfl (lv_at hl 0 rfl) ?_
      refine lv_iload_n hx hb dX4_sworn_16 rfl (lv_at hl 2 rfl) ?_
      refine lv_iconst (v := 0) hx hb dX4_sworn_17 (by decide) ?_
      obtain ⟨x4, h5, h⟩ := bE h
      refine x_RV (As := [.int y2, .int (0 : Int32)]) (rest := [.int y1]) hF (c_X4_isUnderOath l D cI cZ cT o fs a hfs z0 y2 (0 : Int32) x4 h5) (cwV 2 hts (gqV mw_448 mw_449 mw_450 mw_428 mw_432) rfl rfl rfl hd_X4_isUnderOath ⟨Nat.le_of_ble_eq_true rfl, Nat.le_of_ble_eq_true rfl⟩) hK hP q_T_bl (fun _ _ _ => trivial) [0, 1] rfl rfl rfl rfl hl.1 rfl (Nat.le_of_ble_eq_true rfl) dX4_sworn_18 ⟨Nat.zero_le _, Nat.zero_le _⟩ ?_
      refine x_j (V := Int32) (nL := 3) (fun v6 => [(0, .ref o), (2, .int y2)]) 31 (fun v6 => [.int v6, .int y1]) h (fun v6 h ls hl => ?_) (fun v6 h hj => ?_)
      · refine lv_ior hx hb dX4_sworn_31 ?_
        refine lv_istore_n (lv' := [(1, .int (y1 ||| v6)), (0, .ref o), (2, .int y2)]) hx hb dX4_sworn_32 rfl hl (by decide) rfl (fun ls hl => ?_)
        refine lv_iinc (v := (y2 + (1 : Int32))) (lv' := [(2, .int (y2 + (1 : Int32))), (1, .int (y1 ||| v6)), (0, .ref o)]) hx hb dX4_sworn_33 hl (k := 2) rfl rfl (by decide) rfl (fun ls hl => ?_)
        refine lv_goto (tgt := 4) hx hb dX4_sworn_36 (by decide) ?_
        exact ih (y1 ||| v6) (y2 + (1 : Int32)) _ (lv_sub hl [2, 1, 0] rfl) h
      · refine lv_if_eq (tgt := 30) hx hb dX4_sworn_21 (by decide) (fun c7 => ?_) (fun c7 => ?_)
        · have h := xt c7 h
          refine lv_iconst (v := 0) hx hb dX4_sworn_30 (by decide) ?_
          cases h
          exact hj _ (lv_sub hl [0, 2] rfl)
        · have h := xf c7 h
          refine lv_iconst (v := 1) hx hb dX4_sworn_24 (by decide) ?_
          refine lv_iload_n hx hb dX4_sworn_25 rfl (lv_at hl 2 rfl) ?_
          refine lv_ishl hx hb dX4_sworn_26 ?_
          refine lv_goto (tgt := 31) hx hb dX4_sworn_27 (by decide) ?_
          cases h
          exact hj _ (lv_sub hl [0, 2] rfl)
set_option maxHeartbeats 4000000 in
set_option maxRecDepth 100000 in
theorem c_X4_sworn (l : Launch) (D : va_G) (cI cZ cT : ClassId) (o : Nat) (fs : List Value) (a : Nat) (hfs : fs[0]? = some (.ref a)) (u : Nat → Int32) (r : Int32) (h : f_X4_sworn u = some r) : Met l yX4_sworn (wq yX4_sworn cX4_sworn 3 (some .int)) rm_X4_sworn (q_R D (q_tys cI cZ cT) (wS cI o fs a u) q_T [.ref o]) (vp_Si (fun r' => r' = r)) 0 0 (fun _ => False) := by
  refine q_RI (cc := cX4_sworn) (maxL := 3) (ret := (some .int)) (plainFor_of_name (by decide)) (Nat.le_of_ble_eq_true rfl) (fun p e s m below meth c C0 hP hK hE ls hl => ?_)
  have hl : lv_has ls 3 [(0, .ref o)] := hl
  obtain ⟨hx, hb, hr, hml, hown, hts, hlocks⟩ := id C0
  have hF : CallFix p m c cX4_sworn 3 s _ BW RX4 := ⟨hx, hb, hml, hown, hts⟩
  rw [f_X4_sworn] at h
  refine lv_iconst (v := 0) hx hb dX4_sworn_0 (by decide) ?_
  refine lv_istore_n (lv' := [(1, .int (0 : Int32)), (0, .ref o)]) hx hb dX4_sworn_1 rfl hl (by decide) rfl (fun ls hl => ?_)
  refine lv_iconst (v := 0) hx hb dX4_sworn_2 (by decide) ?_
  refine lv_istore_n (lv' := [(2, .int (0 : Int32)), (1, .int (0 : Int32)), (0, .ref o)]) hx hb dX4_sworn_3 rfl hl (by decide) rfl (fun ls hl => ?_)
  obtain ⟨v8, h9, h⟩ := bE h
  refine k_X4_sworn_L4 (v := v8) o fs a hfs u C0 hK hP (fun ls hl => ?_) 2000 (0 : Int32) (0 : Int32) _ (lv_sub hl [2, 1, 0] rfl) h9
  refine lv_iload_n hx hb dX4_sworn_39 rfl (lv_at hl 0 rfl) ?_
  cases h
  exact x_retR C0 rfl dX4_sworn_40

/-! QuarrelWaysModel.why (I)I -/
def f_X4_why (u : Nat → Int32) (a1 : Int32) : Option (Int32) := ((f_X4_isQuarrel u a1).bind fun x1 => (if x1 = 0 then some (-1 : Int32) else ((f_X4_reason u a1 (0 : Int32)).bind fun x4 => some x4)))
abbrev rm_X4_why : Room := { frames := 6, cells := 0, slots := 0, locals := 145 }
theorem hd_X4_why : yX4_why.cls = RX4 ∧ yX4_why.cls ≠ "java/lang/invoke/MethodHandle" ∧ yX4_why.cls ≠ "java/lang/invoke/VarHandle" ∧ (parseMethodDescriptor yX4_why.desc).map (fun d => d.parameters.length) = some 1 := by decide +kernel
set_option maxHeartbeats 4000000 in
set_option maxRecDepth 100000 in
theorem c_X4_why (l : Launch) (D : va_G) (cI cZ cT : ClassId) (o : Nat) (fs : List Value) (a : Nat) (hfs : fs[0]? = some (.ref a)) (u : Nat → Int32) (a1 : Int32) (r : Int32) (h : f_X4_why u a1 = some r) : Met l yX4_why (wq yX4_why cX4_why 2 (some .int)) rm_X4_why (q_R D (q_tys cI cZ cT) (wS cI o fs a u) q_T [.ref o, .int a1]) (vp_Si (fun r' => r' = r)) 0 0 (fun _ => False) := by
  refine q_RI (cc := cX4_why) (maxL := 2) (ret := (some .int)) (plainFor_of_name (by decide)) (Nat.le_of_ble_eq_true rfl) (fun p e s m below meth c C0 hP hK hE ls hl => ?_)
  have hl : lv_has ls 2 [(0, .ref o), (1, .int a1)] := hl
  obtain ⟨hx, hb, hr, hml, hown, hts, hlocks⟩ := id C0
  have hF : CallFix p m c cX4_why 2 s _ BW RX4 := ⟨hx, hb, hml, hown, hts⟩
  rw [f_X4_why] at h
  refine lv_aload_n hx hb dX4_why_0 rfl (lv_at hl 0 rfl) ?_
  refine lv_iload_n hx hb dX4_why_1 rfl (lv_at hl 1 rfl) ?_
  obtain ⟨x1, h2, h⟩ := bE h
  refine x_RV (As := [.int a1]) (rest := []) hF (c_X4_isQuarrel l D cI cZ cT o fs a hfs u a1 x1 h2) (cwV 1 hts (gqV mw_491 mw_492 mw_493 mw_428 mw_429) rfl rfl rfl hd_X4_isQuarrel ⟨Nat.le_of_ble_eq_true rfl, Nat.le_of_ble_eq_true rfl⟩) hK hP q_T_bl (fun _ _ _ => trivial) [0, 1] rfl rfl rfl rfl hl.1 rfl (Nat.le_of_ble_eq_true rfl) dX4_why_2 ⟨Nat.zero_le _, Nat.zero_le _⟩ ?_
  refine lv_if_eq (tgt := 17) hx hb dX4_why_5 (by decide) (fun c3 => ?_) (fun c3 => ?_)
  · have h := xt c3 h
    refine lv_iconst (v := (-1)) hx hb dX4_why_17 (by decide) ?_
    cases h
    exact x_retR C0 rfl dX4_why_18
  · have h := xf c3 h
    refine lv_aload_n hx hb dX4_why_8 rfl (lv_at hl 0 rfl) ?_
    refine lv_iload_n hx hb dX4_why_9 rfl (lv_at hl 1 rfl) ?_
    refine lv_iconst (v := 0) hx hb dX4_why_10 (by decide) ?_
    obtain ⟨x4, h5, h⟩ := bE h
    refine x_RV (As := [.int a1, .int (0 : Int32)]) (rest := []) hF (c_X4_reason l D cI cZ cT o fs a hfs u a1 (0 : Int32) x4 h5) (cwV 2 hts (gqV mw_477 mw_478 mw_479 mw_428 mw_466) rfl rfl rfl hd_X4_reason ⟨Nat.le_of_ble_eq_true rfl, Nat.le_of_ble_eq_true rfl⟩) hK hP q_T_bl (fun _ _ _ => trivial) [0, 1] rfl rfl rfl rfl hl.1 rfl (Nat.le_of_ble_eq_true rfl) dX4_why_11 ⟨Nat.zero_le _, Nat.zero_le _⟩ ?_
    refine lv_goto (tgt := 18) hx hb dX4_why_14 (by decide) ?_
    cases h
    exact x_retR C0 rfl dX4_why_18

/-! QuarrelWaysModel.firstWay (I)I -/
def f_X4_firstWay_L12 (z0 : Nat → Int32) (y1 : Int32) : Nat → Int32 → Option (Int32)
  | 0, _ => none
  | n + 1, y2 => (if (5 : Int32) ≤ y2 then some (-6 : Int32) else ((f_X4_waysOf z0 y1 (0 : Int32)).bind fun x5 => (if ((x5 >>> (y2 &&& 31)) &&& (1 : Int32)) = (1 : Int32) then some y2 else f_X4_firstWay_L12 z0 y1 n (y2 + (1 : Int32)))))
def f_X4_firstWay (u : Nat → Int32) (a1 : Int32) : Option (Int32) := ((f_X4_isQuarrel u a1).bind fun x1 => (if x1 = 0 then some (-1 : Int32) else f_X4_firstWay_L12 u a1 2000 (0 : Int32)))
abbrev rm_X4_firstWay : Room := { frames := 5, cells := 0, slots := 0, locals := 123 }
theorem hd_X4_firstWay : yX4_firstWay.cls = RX4 ∧ yX4_firstWay.cls ≠ "java/lang/invoke/MethodHandle" ∧ yX4_firstWay.cls ≠ "java/lang/invoke/VarHandle" ∧ (parseMethodDescriptor yX4_firstWay.desc).map (fun d => d.parameters.length) = some 1 := by decide +kernel
set_option maxHeartbeats 4000000 in
set_option maxRecDepth 100000 in
theorem k_X4_firstWay_L12 {r : Int32} (o : Nat) (fs : List Value) (a : Nat) (hfs : fs[0]? = some (.ref a)) (z0 : Nat → Int32) (y1 : Int32) (C0 : q_At p s m args meth c cX4_firstWay 3 (some .int) RX4) (hK : va_K D vwCl (q_tys cI cZ cT) s) (hP : va_P D vwCl (wS cI o fs a z0) s.heap) : ∀ (n : Nat) (y2 : Int32) (ls : Array Slot), lv_has ls 3 [(0, .ref o), (1, .int y1), (2, .int y2)] → f_X4_firstWay_L12 z0 y1 n y2 = some r → W p l e rm_X4_firstWay s m args below meth c s.heap [] 0 0 (q_QR below args s r) (F0 m 12 ls []) := by
  obtain ⟨hx, hb, hr, hml, hown, hts, hlocks⟩ := id C0
  have hF : CallFix p m c cX4_firstWay 3 s args BW RX4 := ⟨hx, hb, hml, hown, hts⟩
  intro n
  induction n with
  | zero =>
    intro y2 ls hl h
    rw [f_X4_firstWay_L12] at h
    cases h
  | succ n ih =>
    intro y2 ls hl h
    rw [f_X4_firstWay_L12] at h
    refine lv_iload_n hx hb dX4_firstWay_12 rfl (lv_at hl 2 rfl) ?_
    refine lv_iconst (v := 5) hx hb dX4_firstWay_13 (by decide) ?_
    refine lv_icmp_ge (tgt := 39) hx hb dX4_firstWay_14 (by decide) (fun c4 => ?_) (fun c4 => ?_)
    · have h := xt c4 h
      refine lv_bipush (v := (-6)) hx hb dX4_firstWay_39 (by decide) ?_
      cases h
      exact x_retR C0 rfl dX4_firstWay_41
    · have h := xf c4 h
      refine lv_aload_n hx hb dX4_firstWay_17 rfl (lv_at hl 0 rfl) ?_
      refine lv_iload_n hx hb dX4_firstWay_18 rfl (lv_at hl 1 rfl) ?_
      refine lv_iconst (v := 0) hx hb dX4_firstWay_19 (by decide) ?_
      obtain ⟨x5, h6, h⟩ := bE h
      refine x_RV (As := [.int y1, .int (0 : Int32)]) (rest := []) hF (c_X4_waysOf l D cI cZ cT o fs a hfs z0 y1 (0 : Int32) x5 h6) (cwV 2 hts (gqV mw_463 mw_464 mw_465 mw_428 mw_462) rfl rfl rfl hd_X4_waysOf ⟨Nat.le_of_ble_eq_true rfl, Nat.le_of_ble_eq_true rfl⟩) hK hP q_T_bl (fun _ _ _ => trivial) [0, 1] rfl rfl rfl rfl hl.1 rfl (Nat.le_of_ble_eq_true rfl) dX4_firstWay_20 ⟨Nat.zero_le _, Nat.zero_le _⟩ ?_
      refine lv_iload_n hx hb dX4_firstWay_23 rfl (lv_at hl 2 rfl) ?_
      refine lv_ishr hx hb dX4_firstWay_24 ?_
      refine lv_iconst (v := 1) hx hb dX4_firstWay_25 (by decide) ?_
      refine lv_iand hx hb dX4_firstWay_26 ?_
      refine lv_iconst (v := 1) hx hb dX4_firstWay_27 (by decide) ?_
      refine lv_icmp_ne (tgt := 33) hx hb dX4_firstWay_28 (by decide) (fun c7 => ?_) (fun c7 => ?_)
      · have h := xf c7 h
        refine lv_iinc (v := (y2 + (1 : Int32))) (lv' := [(2, .int (y2 + (1 : Int32))), (0, .ref o), (1, .int y1)]) hx hb dX4_firstWay_33 hl (k := 2) rfl rfl (by decide) rfl (fun ls hl => ?_)
        refine lv_goto (tgt := 12) hx hb dX4_firstWay_36 (by decide) ?_
        exact ih (y2 + (1 : Int32)) _ (lv_sub hl [1, 2, 0] rfl) h
      · have h := xt c7 h
        refine lv_iload_n hx hb dX4_firstWay_31 rfl (lv_at hl 2 rfl) ?_
        cases h
        exact x_retR C0 rfl dX4_firstWay_32
set_option maxHeartbeats 4000000 in
set_option maxRecDepth 100000 in
theorem c_X4_firstWay (l : Launch) (D : va_G) (cI cZ cT : ClassId) (o : Nat) (fs : List Value) (a : Nat) (hfs : fs[0]? = some (.ref a)) (u : Nat → Int32) (a1 : Int32) (r : Int32) (h : f_X4_firstWay u a1 = some r) : Met l yX4_firstWay (wq yX4_firstWay cX4_firstWay 3 (some .int)) rm_X4_firstWay (q_R D (q_tys cI cZ cT) (wS cI o fs a u) q_T [.ref o, .int a1]) (vp_Si (fun r' => r' = r)) 0 0 (fun _ => False) := by
  refine q_RI (cc := cX4_firstWay) (maxL := 3) (ret := (some .int)) (plainFor_of_name (by decide)) (Nat.le_of_ble_eq_true rfl) (fun p e s m below meth c C0 hP hK hE ls hl => ?_)
  have hl : lv_has ls 3 [(0, .ref o), (1, .int a1)] := hl
  obtain ⟨hx, hb, hr, hml, hown, hts, hlocks⟩ := id C0
  have hF : CallFix p m c cX4_firstWay 3 s _ BW RX4 := ⟨hx, hb, hml, hown, hts⟩
  rw [f_X4_firstWay] at h
  refine lv_aload_n hx hb dX4_firstWay_0 rfl (lv_at hl 0 rfl) ?_
  refine lv_iload_n hx hb dX4_firstWay_1 rfl (lv_at hl 1 rfl) ?_
  obtain ⟨x1, h2, h⟩ := bE h
  refine x_RV (As := [.int a1]) (rest := []) hF (c_X4_isQuarrel l D cI cZ cT o fs a hfs u a1 x1 h2) (cwV 1 hts (gqV mw_491 mw_492 mw_493 mw_428 mw_429) rfl rfl rfl hd_X4_isQuarrel ⟨Nat.le_of_ble_eq_true rfl, Nat.le_of_ble_eq_true rfl⟩) hK hP q_T_bl (fun _ _ _ => trivial) [0, 1] rfl rfl rfl rfl hl.1 rfl (Nat.le_of_ble_eq_true rfl) dX4_firstWay_2 ⟨Nat.zero_le _, Nat.zero_le _⟩ ?_
  refine lv_if_ne (tgt := 10) hx hb dX4_firstWay_5 (by decide) (fun c3 => ?_) (fun c3 => ?_)
  · have h := xf c3 h
    refine lv_iconst (v := 0) hx hb dX4_firstWay_10 (by decide) ?_
    refine lv_istore_n (lv' := [(2, .int (0 : Int32)), (0, .ref o), (1, .int a1)]) hx hb dX4_firstWay_11 rfl hl (by decide) rfl (fun ls hl => ?_)
    exact k_X4_firstWay_L12 o fs a hfs u a1 C0 hK hP 2000 (0 : Int32) _ (lv_sub hl [1, 2, 0] rfl) h
  · have h := xt c3 h
    refine lv_iconst (v := (-1)) hx hb dX4_firstWay_8 (by decide) ?_
    cases h
    exact x_retR C0 rfl dX4_firstWay_9

/-! QuarrelWaysModel.opensIn (I)I -/
def f_X4_opensIn_L24 (z0 : Nat → Int32) (y1 : Int32) : Nat → Int32 → Option (Int32)
  | 0, _ => none
  | n + 1, y2 => (if (500 : Int32) < y2 then some (-6 : Int32) else ((f_X4_waysOf z0 y1 y2).bind fun x8 => (if x8 = 0 then f_X4_opensIn_L24 z0 y1 n (y2 + (1 : Int32)) else some y2)))
def f_X4_opensIn (u : Nat → Int32) (a1 : Int32) : Option (Int32) := ((f_X4_isQuarrel u a1).bind fun x1 => (if x1 = 0 then some (-1 : Int32) else ((f_X4_quarrel0 u a1 (4 : Int32)).bind fun x4 => (if x4 = 0 then f_X4_opensIn_L24 u a1 2000 (0 : Int32) else some (-5 : Int32)))))
abbrev rm_X4_opensIn : Room := { frames := 5, cells := 0, slots := 0, locals := 123 }
theorem hd_X4_opensIn : yX4_opensIn.cls = RX4 ∧ yX4_opensIn.cls ≠ "java/lang/invoke/MethodHandle" ∧ yX4_opensIn.cls ≠ "java/lang/invoke/VarHandle" ∧ (parseMethodDescriptor yX4_opensIn.desc).map (fun d => d.parameters.length) = some 1 := by decide +kernel
set_option maxHeartbeats 4000000 in
set_option maxRecDepth 100000 in
theorem k_X4_opensIn_L24 {r : Int32} (o : Nat) (fs : List Value) (a : Nat) (hfs : fs[0]? = some (.ref a)) (z0 : Nat → Int32) (y1 : Int32) (C0 : q_At p s m args meth c cX4_opensIn 3 (some .int) RX4) (hK : va_K D vwCl (q_tys cI cZ cT) s) (hP : va_P D vwCl (wS cI o fs a z0) s.heap) : ∀ (n : Nat) (y2 : Int32) (ls : Array Slot), lv_has ls 3 [(0, .ref o), (1, .int y1), (2, .int y2)] → f_X4_opensIn_L24 z0 y1 n y2 = some r → W p l e rm_X4_opensIn s m args below meth c s.heap [] 0 0 (q_QR below args s r) (F0 m 24 ls []) := by
  obtain ⟨hx, hb, hr, hml, hown, hts, hlocks⟩ := id C0
  have hF : CallFix p m c cX4_opensIn 3 s args BW RX4 := ⟨hx, hb, hml, hown, hts⟩
  intro n
  induction n with
  | zero =>
    intro y2 ls hl h
    rw [f_X4_opensIn_L24] at h
    cases h
  | succ n ih =>
    intro y2 ls hl h
    rw [f_X4_opensIn_L24] at h
    refine lv_iload_n hx hb dX4_opensIn_24 rfl (lv_at hl 2 rfl) ?_
    refine lv_sipush (v := 500) hx hb dX4_opensIn_25 (by decide) ?_
    refine lv_icmp_gt (tgt := 48) hx hb dX4_opensIn_28 (by decide) (fun c7 => ?_) (fun c7 => ?_)
    · have h := xt c7 h
      refine lv_bipush (v := (-6)) hx hb dX4_opensIn_48 (by decide) ?_
      cases h
      exact x_retR C0 rfl dX4_opensIn_50
    · have h := xf c7 h
      refine lv_aload_n hx hb dX4_opensIn_31 rfl (lv_at hl 0 rfl) ?_
      refine lv_iload_n hx hb dX4_opensIn_32 rfl (lv_at hl 1 rfl) ?_
      refine lv_iload_n hx hb dX4_opensIn_33 rfl (lv_at hl 2 rfl) ?_
      obtain ⟨x8, h9, h⟩ := bE h
      refine x_RV (As := [.int y1, .int y2]) (rest := []) hF (c_X4_waysOf l D cI cZ cT o fs a hfs z0 y1 y2 x8 h9) (cwV 2 hts (gqV mw_463 mw_464 mw_465 mw_428 mw_462) rfl rfl rfl hd_X4_waysOf ⟨Nat.le_of_ble_eq_true rfl, Nat.le_of_ble_eq_true rfl⟩) hK hP q_T_bl (fun _ _ _ => trivial) [0, 1] rfl rfl rfl rfl hl.1 rfl (Nat.le_of_ble_eq_true rfl) dX4_opensIn_34 ⟨Nat.zero_le _, Nat.zero_le _⟩ ?_
      refine lv_if_eq (tgt := 42) hx hb dX4_opensIn_37 (by decide) (fun c10 => ?_) (fun c10 => ?_)
      · have h := xt c10 h
        refine lv_iinc (v := (y2 + (1 : Int32))) (lv' := [(2, .int (y2 + (1 : Int32))), (0, .ref o), (1, .int y1)]) hx hb dX4_opensIn_42 hl (k := 2) rfl rfl (by decide) rfl (fun ls hl => ?_)
        refine lv_goto (tgt := 24) hx hb dX4_opensIn_45 (by decide) ?_
        exact ih (y2 + (1 : Int32)) _ (lv_sub hl [1, 2, 0] rfl) h
      · have h := xf c10 h
        refine lv_iload_n hx hb dX4_opensIn_40 rfl (lv_at hl 2 rfl) ?_
        cases h
        exact x_retR C0 rfl dX4_opensIn_41
set_option maxHeartbeats 4000000 in
set_option maxRecDepth 100000 in
theorem c_X4_opensIn (l : Launch) (D : va_G) (cI cZ cT : ClassId) (o : Nat) (fs : List Value) (a : Nat) (hfs : fs[0]? = some (.ref a)) (u : Nat → Int32) (a1 : Int32) (r : Int32) (h : f_X4_opensIn u a1 = some r) : Met l yX4_opensIn (wq yX4_opensIn cX4_opensIn 3 (some .int)) rm_X4_opensIn (q_R D (q_tys cI cZ cT) (wS cI o fs a u) q_T [.ref o, .int a1]) (vp_Si (fun r' => r' = r)) 0 0 (fun _ => False) := by
  refine q_RI (cc := cX4_opensIn) (maxL := 3) (ret := (some .int)) (plainFor_of_name (by decide)) (Nat.le_of_ble_eq_true rfl) (fun p e s m below meth c C0 hP hK hE ls hl => ?_)
  have hl : lv_has ls 3 [(0, .ref o), (1, .int a1)] := hl
  obtain ⟨hx, hb, hr, hml, hown, hts, hlocks⟩ := id C0
  have hF : CallFix p m c cX4_opensIn 3 s _ BW RX4 := ⟨hx, hb, hml, hown, hts⟩
  rw [f_X4_opensIn] at h
  refine lv_aload_n hx hb dX4_opensIn_0 rfl (lv_at hl 0 rfl) ?_
  refine lv_iload_n hx hb dX4_opensIn_1 rfl (lv_at hl 1 rfl) ?_
  obtain ⟨x1, h2, h⟩ := bE h
  refine x_RV (As := [.int a1]) (rest := []) hF (c_X4_isQuarrel l D cI cZ cT o fs a hfs u a1 x1 h2) (cwV 1 hts (gqV mw_491 mw_492 mw_493 mw_428 mw_429) rfl rfl rfl hd_X4_isQuarrel ⟨Nat.le_of_ble_eq_true rfl, Nat.le_of_ble_eq_true rfl⟩) hK hP q_T_bl (fun _ _ _ => trivial) [0, 1] rfl rfl rfl rfl hl.1 rfl (Nat.le_of_ble_eq_true rfl) dX4_opensIn_2 ⟨Nat.zero_le _, Nat.zero_le _⟩ ?_
  refine lv_if_ne (tgt := 10) hx hb dX4_opensIn_5 (by decide) (fun c3 => ?_) (fun c3 => ?_)
  · have h := xf c3 h
    refine lv_aload_n hx hb dX4_opensIn_10 rfl (lv_at hl 0 rfl) ?_
    refine lv_iload_n hx hb dX4_opensIn_11 rfl (lv_at hl 1 rfl) ?_
    refine lv_iconst (v := 4) hx hb dX4_opensIn_12 (by decide) ?_
    obtain ⟨x4, h5, h⟩ := bE h
    refine x_RV (As := [.int a1, .int (4 : Int32)]) (rest := []) hF (c_X4_quarrel0 l D cI cZ cT o fs a hfs u a1 (4 : Int32) x4 h5) (cwV 2 hts (gqV mw_437 mw_438 mw_439 mw_428 mw_431) rfl rfl rfl hd_X4_quarrel0 ⟨Nat.le_of_ble_eq_true rfl, Nat.le_of_ble_eq_true rfl⟩) hK hP q_T_bl (fun _ _ _ => trivial) [0, 1] rfl rfl rfl rfl hl.1 rfl (Nat.le_of_ble_eq_true rfl) dX4_opensIn_13 ⟨Nat.zero_le _, Nat.zero_le _⟩ ?_
    refine lv_if_eq (tgt := 22) hx hb dX4_opensIn_16 (by decide) (fun c6 => ?_) (fun c6 => ?_)
    · have h := xt c6 h
      refine lv_iconst (v := 0) hx hb dX4_opensIn_22 (by decide) ?_
      refine lv_istore_n (lv' := [(2, .int (0 : Int32)), (0, .ref o), (1, .int a1)]) hx hb dX4_opensIn_23 rfl hl (by decide) rfl (fun ls hl => ?_)
      exact k_X4_opensIn_L24 o fs a hfs u a1 C0 hK hP 2000 (0 : Int32) _ (lv_sub hl [1, 2, 0] rfl) h
    · have h := xf c6 h
      refine lv_bipush (v := (-5)) hx hb dX4_opensIn_19 (by decide) ?_
      cases h
      exact x_retR C0 rfl dX4_opensIn_21
  · have h := xt c3 h
    refine lv_iconst (v := (-1)) hx hb dX4_opensIn_8 (by decide) ?_
    cases h
    exact x_retR C0 rfl dX4_opensIn_9

/-! QuarrelWaysModel.dueIn (I)I -/
def f_X4_dueIn_L24 (z0 : Nat → Int32) (y1 : Int32) : Nat → Int32 → Option (Int32)
  | 0, _ => none
  | n + 1, y2 => (if (500 : Int32) < y2 then some (-6 : Int32) else ((f_X4_reason z0 y1 y2).bind fun x8 => (if x8 = 0 then some y2 else f_X4_dueIn_L24 z0 y1 n (y2 + (1 : Int32)))))
def f_X4_dueIn (u : Nat → Int32) (a1 : Int32) : Option (Int32) := ((f_X4_isQuarrel u a1).bind fun x1 => (if x1 = 0 then some (-1 : Int32) else ((f_X4_quarrel0 u a1 (4 : Int32)).bind fun x4 => (if x4 = 0 then f_X4_dueIn_L24 u a1 2000 (0 : Int32) else some (-5 : Int32)))))
abbrev rm_X4_dueIn : Room := { frames := 6, cells := 0, slots := 0, locals := 145 }
theorem hd_X4_dueIn : yX4_dueIn.cls = RX4 ∧ yX4_dueIn.cls ≠ "java/lang/invoke/MethodHandle" ∧ yX4_dueIn.cls ≠ "java/lang/invoke/VarHandle" ∧ (parseMethodDescriptor yX4_dueIn.desc).map (fun d => d.parameters.length) = some 1 := by decide +kernel
set_option maxHeartbeats 4000000 in
set_option maxRecDepth 100000 in
theorem k_X4_dueIn_L24 {r : Int32} (o : Nat) (fs : List Value) (a : Nat) (hfs : fs[0]? = some (.ref a)) (z0 : Nat → Int32) (y1 : Int32) (C0 : q_At p s m args meth c cX4_dueIn 3 (some .int) RX4) (hK : va_K D vwCl (q_tys cI cZ cT) s) (hP : va_P D vwCl (wS cI o fs a z0) s.heap) : ∀ (n : Nat) (y2 : Int32) (ls : Array Slot), lv_has ls 3 [(0, .ref o), (1, .int y1), (2, .int y2)] → f_X4_dueIn_L24 z0 y1 n y2 = some r → W p l e rm_X4_dueIn s m args below meth c s.heap [] 0 0 (q_QR below args s r) (F0 m 24 ls []) := by
  obtain ⟨hx, hb, hr, hml, hown, hts, hlocks⟩ := id C0
  have hF : CallFix p m c cX4_dueIn 3 s args BW RX4 := ⟨hx, hb, hml, hown, hts⟩
  intro n
  induction n with
  | zero =>
    intro y2 ls hl h
    rw [f_X4_dueIn_L24] at h
    cases h
  | succ n ih =>
    intro y2 ls hl h
    rw [f_X4_dueIn_L24] at h
    refine lv_iload_n hx hb dX4_dueIn_24 rfl (lv_at hl 2 rfl) ?_
    refine lv_sipush (v := 500) hx hb dX4_dueIn_25 (by decide) ?_
    refine lv_icmp_gt (tgt := 48) hx hb dX4_dueIn_28 (by decide) (fun c7 => ?_) (fun c7 => ?_)
    · have h := xt c7 h
      refine lv_bipush (v := (-6)) hx hb dX4_dueIn_48 (by decide) ?_
      cases h
      exact x_retR C0 rfl dX4_dueIn_50
    · have h := xf c7 h
      refine lv_aload_n hx hb dX4_dueIn_31 rfl (lv_at hl 0 rfl) ?_
      refine lv_iload_n hx hb dX4_dueIn_32 rfl (lv_at hl 1 rfl) ?_
      refine lv_iload_n hx hb dX4_dueIn_33 rfl (lv_at hl 2 rfl) ?_
      obtain ⟨x8, h9, h⟩ := bE h
      refine x_RV (As := [.int y1, .int y2]) (rest := []) hF (c_X4_reason l D cI cZ cT o fs a hfs z0 y1 y2 x8 h9) (cwV 2 hts (gqV mw_477 mw_478 mw_479 mw_428 mw_466) rfl rfl rfl hd_X4_reason ⟨Nat.le_of_ble_eq_true rfl, Nat.le_of_ble_eq_true rfl⟩) hK hP q_T_bl (fun _ _ _ => trivial) [0, 1] rfl rfl rfl rfl hl.1 rfl (Nat.le_of_ble_eq_true rfl) dX4_dueIn_34 ⟨Nat.zero_le _, Nat.zero_le _⟩ ?_
      refine lv_if_ne (tgt := 42) hx hb dX4_dueIn_37 (by decide) (fun c10 => ?_) (fun c10 => ?_)
      · have h := xf c10 h
        refine lv_iinc (v := (y2 + (1 : Int32))) (lv' := [(2, .int (y2 + (1 : Int32))), (0, .ref o), (1, .int y1)]) hx hb dX4_dueIn_42 hl (k := 2) rfl rfl (by decide) rfl (fun ls hl => ?_)
        refine lv_goto (tgt := 24) hx hb dX4_dueIn_45 (by decide) ?_
        exact ih (y2 + (1 : Int32)) _ (lv_sub hl [1, 2, 0] rfl) h
      · have h := xt c10 h
        refine lv_iload_n hx hb dX4_dueIn_40 rfl (lv_at hl 2 rfl) ?_
        cases h
        exact x_retR C0 rfl dX4_dueIn_41
set_option maxHeartbeats 4000000 in
set_option maxRecDepth 100000 in
theorem c_X4_dueIn (l : Launch) (D : va_G) (cI cZ cT : ClassId) (o : Nat) (fs : List Value) (a : Nat) (hfs : fs[0]? = some (.ref a)) (u : Nat → Int32) (a1 : Int32) (r : Int32) (h : f_X4_dueIn u a1 = some r) : Met l yX4_dueIn (wq yX4_dueIn cX4_dueIn 3 (some .int)) rm_X4_dueIn (q_R D (q_tys cI cZ cT) (wS cI o fs a u) q_T [.ref o, .int a1]) (vp_Si (fun r' => r' = r)) 0 0 (fun _ => False) := by
  refine q_RI (cc := cX4_dueIn) (maxL := 3) (ret := (some .int)) (plainFor_of_name (by decide)) (Nat.le_of_ble_eq_true rfl) (fun p e s m below meth c C0 hP hK hE ls hl => ?_)
  have hl : lv_has ls 3 [(0, .ref o), (1, .int a1)] := hl
  obtain ⟨hx, hb, hr, hml, hown, hts, hlocks⟩ := id C0
  have hF : CallFix p m c cX4_dueIn 3 s _ BW RX4 := ⟨hx, hb, hml, hown, hts⟩
  rw [f_X4_dueIn] at h
  refine lv_aload_n hx hb dX4_dueIn_0 rfl (lv_at hl 0 rfl) ?_
  refine lv_iload_n hx hb dX4_dueIn_1 rfl (lv_at hl 1 rfl) ?_
  obtain ⟨x1, h2, h⟩ := bE h
  refine x_RV (As := [.int a1]) (rest := []) hF (c_X4_isQuarrel l D cI cZ cT o fs a hfs u a1 x1 h2) (cwV 1 hts (gqV mw_491 mw_492 mw_493 mw_428 mw_429) rfl rfl rfl hd_X4_isQuarrel ⟨Nat.le_of_ble_eq_true rfl, Nat.le_of_ble_eq_true rfl⟩) hK hP q_T_bl (fun _ _ _ => trivial) [0, 1] rfl rfl rfl rfl hl.1 rfl (Nat.le_of_ble_eq_true rfl) dX4_dueIn_2 ⟨Nat.zero_le _, Nat.zero_le _⟩ ?_
  refine lv_if_ne (tgt := 10) hx hb dX4_dueIn_5 (by decide) (fun c3 => ?_) (fun c3 => ?_)
  · have h := xf c3 h
    refine lv_aload_n hx hb dX4_dueIn_10 rfl (lv_at hl 0 rfl) ?_
    refine lv_iload_n hx hb dX4_dueIn_11 rfl (lv_at hl 1 rfl) ?_
    refine lv_iconst (v := 4) hx hb dX4_dueIn_12 (by decide) ?_
    obtain ⟨x4, h5, h⟩ := bE h
    refine x_RV (As := [.int a1, .int (4 : Int32)]) (rest := []) hF (c_X4_quarrel0 l D cI cZ cT o fs a hfs u a1 (4 : Int32) x4 h5) (cwV 2 hts (gqV mw_437 mw_438 mw_439 mw_428 mw_431) rfl rfl rfl hd_X4_quarrel0 ⟨Nat.le_of_ble_eq_true rfl, Nat.le_of_ble_eq_true rfl⟩) hK hP q_T_bl (fun _ _ _ => trivial) [0, 1] rfl rfl rfl rfl hl.1 rfl (Nat.le_of_ble_eq_true rfl) dX4_dueIn_13 ⟨Nat.zero_le _, Nat.zero_le _⟩ ?_
    refine lv_if_eq (tgt := 22) hx hb dX4_dueIn_16 (by decide) (fun c6 => ?_) (fun c6 => ?_)
    · have h := xt c6 h
      refine lv_iconst (v := 0) hx hb dX4_dueIn_22 (by decide) ?_
      refine lv_istore_n (lv' := [(2, .int (0 : Int32)), (0, .ref o), (1, .int a1)]) hx hb dX4_dueIn_23 rfl hl (by decide) rfl (fun ls hl => ?_)
      exact k_X4_dueIn_L24 o fs a hfs u a1 C0 hK hP 2000 (0 : Int32) _ (lv_sub hl [1, 2, 0] rfl) h
    · have h := xf c6 h
      refine lv_bipush (v := (-5)) hx hb dX4_dueIn_19 (by decide) ?_
      cases h
      exact x_retR C0 rfl dX4_dueIn_21
  · have h := xt c3 h
    refine lv_iconst (v := (-1)) hx hb dX4_dueIn_8 (by decide) ?_
    cases h
    exact x_retR C0 rfl dX4_dueIn_9

/-! QuarrelWaysModel.ifInsulted (III)I -/
def f_X4_ifInsulted (u : Nat → Int32) (a1 : Int32) (a2 : Int32) (a3 : Int32) : Option (Int32) := ((f_X4_isPerson u a1).bind fun x1 => (if x1 = 0 then some (-1 : Int32) else ((f_X4_isPerson u a2).bind fun x4 => (if x4 = 0 then some (-1 : Int32) else (if a1 = a2 then some (-2 : Int32) else ((f_X4_in a3 (1 : Int32) (9 : Int32)).bind fun x8 => (if x8 = 0 then some (-2 : Int32) else ((f_X4_waysFor u a1 a2 a3 (0 : Int32) (-6 : Int32) (0 : Int32)).bind fun x11 => some x11))))))))
abbrev rm_X4_ifInsulted : Room := { frames := 4, cells := 0, slots := 0, locals := 101 }
theorem hd_X4_ifInsulted : yX4_ifInsulted.cls = RX4 ∧ yX4_ifInsulted.cls ≠ "java/lang/invoke/MethodHandle" ∧ yX4_ifInsulted.cls ≠ "java/lang/invoke/VarHandle" ∧ (parseMethodDescriptor yX4_ifInsulted.desc).map (fun d => d.parameters.length) = some 3 := by decide +kernel
set_option maxHeartbeats 4000000 in
set_option maxRecDepth 100000 in
theorem c_X4_ifInsulted (l : Launch) (D : va_G) (cI cZ cT : ClassId) (o : Nat) (fs : List Value) (a : Nat) (hfs : fs[0]? = some (.ref a)) (u : Nat → Int32) (a1 : Int32) (a2 : Int32) (a3 : Int32) (r : Int32) (h : f_X4_ifInsulted u a1 a2 a3 = some r) : Met l yX4_ifInsulted (wq yX4_ifInsulted cX4_ifInsulted 4 (some .int)) rm_X4_ifInsulted (q_R D (q_tys cI cZ cT) (wS cI o fs a u) q_T [.ref o, .int a1, .int a2, .int a3]) (vp_Si (fun r' => r' = r)) 0 0 (fun _ => False) := by
  refine q_RI (cc := cX4_ifInsulted) (maxL := 4) (ret := (some .int)) (plainFor_of_name (by decide)) (Nat.le_of_ble_eq_true rfl) (fun p e s m below meth c C0 hP hK hE ls hl => ?_)
  have hl : lv_has ls 4 [(0, .ref o), (1, .int a1), (2, .int a2), (3, .int a3)] := hl
  obtain ⟨hx, hb, hr, hml, hown, hts, hlocks⟩ := id C0
  have hF : CallFix p m c cX4_ifInsulted 4 s _ BW RX4 := ⟨hx, hb, hml, hown, hts⟩
  rw [f_X4_ifInsulted] at h
  refine lv_aload_n hx hb dX4_ifInsulted_0 rfl (lv_at hl 0 rfl) ?_
  refine lv_iload_n hx hb dX4_ifInsulted_1 rfl (lv_at hl 1 rfl) ?_
  obtain ⟨x1, h2, h⟩ := bE h
  refine x_RV (As := [.int a1]) (rest := []) hF (c_X4_isPerson l D cI cZ cT o fs a hfs u a1 x1 h2) (cwV 1 hts (gqV mw_483 mw_484 mw_485 mw_428 mw_425) rfl rfl rfl hd_X4_isPerson ⟨Nat.le_of_ble_eq_true rfl, Nat.le_of_ble_eq_true rfl⟩) hK hP q_T_bl (fun _ _ _ => trivial) [0, 1] rfl rfl rfl rfl hl.1 rfl (Nat.le_of_ble_eq_true rfl) dX4_ifInsulted_2 ⟨Nat.zero_le _, Nat.zero_le _⟩ ?_
  refine lv_if_eq (tgt := 16) hx hb dX4_ifInsulted_5 (by decide) (fun c3 => ?_) (fun c3 => ?_)
  · have h := xt c3 h
    refine lv_iconst (v := (-1)) hx hb dX4_ifInsulted_16 (by decide) ?_
    cases h
    exact x_retR C0 rfl dX4_ifInsulted_17
  · have h := xf c3 h
    refine lv_aload_n hx hb dX4_ifInsulted_8 rfl (lv_at hl 0 rfl) ?_
    refine lv_iload_n hx hb dX4_ifInsulted_9 rfl (lv_at hl 2 rfl) ?_
    obtain ⟨x4, h5, h⟩ := bE h
    refine x_RV (As := [.int a2]) (rest := []) hF (c_X4_isPerson l D cI cZ cT o fs a hfs u a2 x4 h5) (cwV 1 hts (gqV mw_483 mw_484 mw_485 mw_428 mw_425) rfl rfl rfl hd_X4_isPerson ⟨Nat.le_of_ble_eq_true rfl, Nat.le_of_ble_eq_true rfl⟩) hK hP q_T_bl (fun _ _ _ => trivial) [0, 1] rfl rfl rfl rfl hl.1 rfl (Nat.le_of_ble_eq_true rfl) dX4_ifInsulted_10 ⟨Nat.zero_le _, Nat.zero_le _⟩ ?_
    refine lv_if_ne (tgt := 18) hx hb dX4_ifInsulted_13 (by decide) (fun c6 => ?_) (fun c6 => ?_)
    · have h := xf c6 h
      refine lv_iload_n hx hb dX4_ifInsulted_18 rfl (lv_at hl 1 rfl) ?_
      refine lv_iload_n hx hb dX4_ifInsulted_19 rfl (lv_at hl 2 rfl) ?_
      refine lv_icmp_eq (tgt := 33) hx hb dX4_ifInsulted_20 (by decide) (fun c7 => ?_) (fun c7 => ?_)
      · have h := xt c7 h
        refine lv_bipush (v := (-2)) hx hb dX4_ifInsulted_33 (by decide) ?_
        cases h
        exact x_retR C0 rfl dX4_ifInsulted_35
      · have h := xf c7 h
        refine lv_iload_n hx hb dX4_ifInsulted_23 rfl (lv_at hl 3 rfl) ?_
        refine lv_iconst (v := 1) hx hb dX4_ifInsulted_24 (by decide) ?_
        refine lv_bipush (v := 9) hx hb dX4_ifInsulted_25 (by decide) ?_
        obtain ⟨x8, h9, h⟩ := bE h
        refine x_RS (As := [.int a3, .int (1 : Int32), .int (9 : Int32)]) (rest := []) hF (c_X4_in l D cI cZ cT  a3 (1 : Int32) (9 : Int32) x8 h9) (va_cwS 3 hts (gqS mw_426 mw_427 mw_428 mw_421) rfl rfl rfl hd_X4_in.2 ⟨Nat.le_of_ble_eq_true rfl, Nat.le_of_ble_eq_true rfl⟩) hK hP q_T_bl (fun _ _ _ => trivial) [] rfl rfl hl.1 rfl (Nat.le_of_ble_eq_true rfl) dX4_ifInsulted_27 ⟨Nat.zero_le _, Nat.zero_le _⟩ ?_
        refine lv_if_ne (tgt := 36) hx hb dX4_ifInsulted_30 (by decide) (fun c10 => ?_) (fun c10 => ?_)
        · have h := xf c10 h
          refine lv_aload_n hx hb dX4_ifInsulted_36 rfl (lv_at hl 0 rfl) ?_
          refine lv_iload_n hx hb dX4_ifInsulted_37 rfl (lv_at hl 1 rfl) ?_
          refine lv_iload_n hx hb dX4_ifInsulted_38 rfl (lv_at hl 2 rfl) ?_
          refine lv_iload_n hx hb dX4_ifInsulted_39 rfl (lv_at hl 3 rfl) ?_
          refine lv_iconst (v := 0) hx hb dX4_ifInsulted_40 (by decide) ?_
          refine lv_bipush (v := (-6)) hx hb dX4_ifInsulted_41 (by decide) ?_
          refine lv_iconst (v := 0) hx hb dX4_ifInsulted_43 (by decide) ?_
          obtain ⟨x11, h12, h⟩ := bE h
          refine x_RV (As := [.int a1, .int a2, .int a3, .int (0 : Int32), .int (-6 : Int32), .int (0 : Int32)]) (rest := []) hF (c_X4_waysFor l D cI cZ cT o fs a hfs u a1 a2 a3 (0 : Int32) (-6 : Int32) (0 : Int32) x11 h12) (cwV 6 hts (gqV mw_459 mw_460 mw_461 mw_428 mw_454) rfl rfl rfl hd_X4_waysFor ⟨Nat.le_of_ble_eq_true rfl, Nat.le_of_ble_eq_true rfl⟩) hK hP q_T_bl (fun _ _ _ => trivial) [0, 1] rfl rfl rfl rfl hl.1 rfl (Nat.le_of_ble_eq_true rfl) dX4_ifInsulted_44 ⟨Nat.zero_le _, Nat.zero_le _⟩ ?_
          cases h
          exact x_retR C0 rfl dX4_ifInsulted_47
        · have h := xt c10 h
          refine lv_bipush (v := (-2)) hx hb dX4_ifInsulted_33 (by decide) ?_
          cases h
          exact x_retR C0 rfl dX4_ifInsulted_35
    · have h := xt c6 h
      refine lv_iconst (v := (-1)) hx hb dX4_ifInsulted_16 (by decide) ?_
      cases h
      exact x_retR C0 rfl dX4_ifInsulted_17

/-! QuarrelWaysModel.ifFought (I)I -/
def f_X4_ifFought (u : Nat → Int32) (a1 : Int32) : Option (Int32) := ((f_X4_isQuarrel u a1).bind fun x1 => (if x1 = 0 then some (-1 : Int32) else ((f_X4_winnerOf u a1).bind fun x4 => some x4)))
abbrev rm_X4_ifFought : Room := { frames := 3, cells := 0, slots := 0, locals := 66 }
theorem hd_X4_ifFought : yX4_ifFought.cls = RX4 ∧ yX4_ifFought.cls ≠ "java/lang/invoke/MethodHandle" ∧ yX4_ifFought.cls ≠ "java/lang/invoke/VarHandle" ∧ (parseMethodDescriptor yX4_ifFought.desc).map (fun d => d.parameters.length) = some 1 := by decide +kernel
set_option maxHeartbeats 4000000 in
set_option maxRecDepth 100000 in
theorem c_X4_ifFought (l : Launch) (D : va_G) (cI cZ cT : ClassId) (o : Nat) (fs : List Value) (a : Nat) (hfs : fs[0]? = some (.ref a)) (u : Nat → Int32) (a1 : Int32) (r : Int32) (h : f_X4_ifFought u a1 = some r) : Met l yX4_ifFought (wq yX4_ifFought cX4_ifFought 2 (some .int)) rm_X4_ifFought (q_R D (q_tys cI cZ cT) (wS cI o fs a u) q_T [.ref o, .int a1]) (vp_Si (fun r' => r' = r)) 0 0 (fun _ => False) := by
  refine q_RI (cc := cX4_ifFought) (maxL := 2) (ret := (some .int)) (plainFor_of_name (by decide)) (Nat.le_of_ble_eq_true rfl) (fun p e s m below meth c C0 hP hK hE ls hl => ?_)
  have hl : lv_has ls 2 [(0, .ref o), (1, .int a1)] := hl
  obtain ⟨hx, hb, hr, hml, hown, hts, hlocks⟩ := id C0
  have hF : CallFix p m c cX4_ifFought 2 s _ BW RX4 := ⟨hx, hb, hml, hown, hts⟩
  rw [f_X4_ifFought] at h
  refine lv_aload_n hx hb dX4_ifFought_0 rfl (lv_at hl 0 rfl) ?_
  refine lv_iload_n hx hb dX4_ifFought_1 rfl (lv_at hl 1 rfl) ?_
  obtain ⟨x1, h2, h⟩ := bE h
  refine x_RV (As := [.int a1]) (rest := []) hF (c_X4_isQuarrel l D cI cZ cT o fs a hfs u a1 x1 h2) (cwV 1 hts (gqV mw_491 mw_492 mw_493 mw_428 mw_429) rfl rfl rfl hd_X4_isQuarrel ⟨Nat.le_of_ble_eq_true rfl, Nat.le_of_ble_eq_true rfl⟩) hK hP q_T_bl (fun _ _ _ => trivial) [0, 1] rfl rfl rfl rfl hl.1 rfl (Nat.le_of_ble_eq_true rfl) dX4_ifFought_2 ⟨Nat.zero_le _, Nat.zero_le _⟩ ?_
  refine lv_if_eq (tgt := 16) hx hb dX4_ifFought_5 (by decide) (fun c3 => ?_) (fun c3 => ?_)
  · have h := xt c3 h
    refine lv_iconst (v := (-1)) hx hb dX4_ifFought_16 (by decide) ?_
    cases h
    exact x_retR C0 rfl dX4_ifFought_17
  · have h := xf c3 h
    refine lv_aload_n hx hb dX4_ifFought_8 rfl (lv_at hl 0 rfl) ?_
    refine lv_iload_n hx hb dX4_ifFought_9 rfl (lv_at hl 1 rfl) ?_
    obtain ⟨x4, h5, h⟩ := bE h
    refine x_RV (As := [.int a1]) (rest := []) hF (c_X4_winnerOf l D cI cZ cT o fs a hfs u a1 x4 h5) (cwV 1 hts (gqV mw_503 mw_504 mw_505 mw_428 mw_468) rfl rfl rfl hd_X4_winnerOf ⟨Nat.le_of_ble_eq_true rfl, Nat.le_of_ble_eq_true rfl⟩) hK hP q_T_bl (fun _ _ _ => trivial) [0, 1] rfl rfl rfl rfl hl.1 rfl (Nat.le_of_ble_eq_true rfl) dX4_ifFought_10 ⟨Nat.zero_le _, Nat.zero_le _⟩ ?_
    refine lv_goto (tgt := 17) hx hb dX4_ifFought_13 (by decide) ?_
    cases h
    exact x_retR C0 rfl dX4_ifFought_17

/-! QuarrelWaysModel.count (I)I -/
def f_X4_count (t : MM) (a1 : Int32) : Option (Int32) := (if a1 = (0 : Int32) then ((rd t.1 181 (4 : Int32)).bind fun x3 => some x3) else (if a1 = (1 : Int32) then ((rd t.1 181 (5 : Int32)).bind fun x6 => some x6) else (if a1 = (2 : Int32) then ((rd t.1 181 (47 : Int32)).bind fun x9 => some x9) else (if a1 = (3 : Int32) then ((f_X4_quarrelsThat t.1 (0 : Int32)).bind fun x12 => some x12) else (if a1 = (4 : Int32) then ((f_X4_due t.1).bind fun x15 => some x15) else (if a1 = (5 : Int32) then ((f_X4_quarrelsThat t.1 (1 : Int32)).bind fun x18 => ((f_X4_size x18).bind fun x20 => some x20)) else (if a1 = (6 : Int32) then ((f_X4_quarrelsThat t.1 (2 : Int32)).bind fun x23 => ((f_X4_size x23).bind fun x25 => some x25)) else (if a1 = (7 : Int32) then ((rd t.1 181 (46 : Int32)).bind fun x28 => some x28) else (if a1 = (8 : Int32) then ((f_X4_sworn t.1).bind fun x31 => some x31) else (if a1 = (9 : Int32) then ((rd t.1 181 (a1 - (9 : Int32))).bind fun x34 => some x34) else (if a1 = (10 : Int32) then ((rd t.1 181 (a1 - (9 : Int32))).bind fun x37 => some x37) else (if a1 = (11 : Int32) then ((rd t.1 181 (a1 - (9 : Int32))).bind fun x40 => some x40) else (if a1 = (12 : Int32) then ((rd t.1 181 (a1 - (9 : Int32))).bind fun x43 => some x43) else (if a1 = (13 : Int32) then some t.2.2.2.2.2.2.2.1 else (if a1 = (14 : Int32) then some t.2.2.2.1 else some (-2 : Int32))))))))))))))))
abbrev rm_X4_count : Room := { frames := 7, cells := 0, slots := 0, locals := 167 }
theorem hd_X4_count : yX4_count.cls = RX4 ∧ yX4_count.cls ≠ "java/lang/invoke/MethodHandle" ∧ yX4_count.cls ≠ "java/lang/invoke/VarHandle" ∧ (parseMethodDescriptor yX4_count.desc).map (fun d => d.parameters.length) = some 1 := by decide +kernel
set_option maxHeartbeats 4000000 in
set_option maxRecDepth 100000 in
theorem c_X4_count (l : Launch) (D : va_G) (cI cZ cT : ClassId) (o : Nat) (b : Nat → Nat) (t : MM) (a1 : Int32) (r : Int32) (h : f_X4_count t a1 = some r) : Met l yX4_count (wq yX4_count cX4_count 2 (some .int)) rm_X4_count (q_R D (q_tys cI cZ cT) (wM cI cZ o b t) q_T [.ref o, .int a1]) (vp_Si (fun r' => r' = r)) 0 0 (fun _ => False) := by
  refine q_RI (cc := cX4_count) (maxL := 2) (ret := (some .int)) (plainFor_of_name (by decide)) (Nat.le_of_ble_eq_true rfl) (fun p e s m below meth c C0 hP hK hE ls hl => ?_)
  have hl : lv_has ls 2 [(0, .ref o), (1, .int a1)] := hl
  obtain ⟨hx, hb, hr, hml, hown, hts, hlocks⟩ := id C0
  have hF : CallFix p m c cX4_count 2 s _ BW RX4 := ⟨hx, hb, hml, hown, hts⟩
  rw [f_X4_count] at h
  refine lv_iload_n hx hb dX4_count_0 rfl (lv_at hl 1 rfl) ?_
  by_cases c2 : a1 = (0 : Int32)
  · have h := xt c2 h
    refine lv_tableIn (tgt := 76) hx hb dX4_count_1 (by rw [c2]; decide) (by rw [c2]; decide) (off := 75) (by rw [c2]; rfl) (by decide) ?_
    refine lv_aload_n hx hb dX4_count_76 rfl (lv_at hl 0 rfl) ?_
    refine va_get (D := D) (v := .ref (b 0)) (C := RX4) (T := TX4) (N := 10) hx hb hts iw_X4 hown hK hP 0 rfl rfl 0 (by decide) (hts _ mw_414) (fun _ h9 => h9) rfl dX4_count_77 ?_
    refine lv_iconst (v := 4) hx hb dX4_count_80 (by decide) ?_
    obtain ⟨x3, h4, h⟩ := bE h
    refine x_iald (cA := cI) hx hb hK hP 1 0 rfl rfl h4 dX4_count_81 ?_
    cases h
    exact x_retR C0 rfl dX4_count_82
  have h := xf c2 h
  by_cases c5 : a1 = (1 : Int32)
  · have h := xt c5 h
    refine lv_tableIn (tgt := 83) hx hb dX4_count_1 (by rw [c5]; decide) (by rw [c5]; decide) (off := 82) (by rw [c5]; rfl) (by decide) ?_
    refine lv_aload_n hx hb dX4_count_83 rfl (lv_at hl 0 rfl) ?_
    refine va_get (D := D) (v := .ref (b 0)) (C := RX4) (T := TX4) (N := 10) hx hb hts iw_X4 hown hK hP 0 rfl rfl 0 (by decide) (hts _ mw_414) (fun _ h9 => h9) rfl dX4_count_84 ?_
    refine lv_iconst (v := 5) hx hb dX4_count_87 (by decide) ?_
    obtain ⟨x6, h7, h⟩ := bE h
    refine x_iald (cA := cI) hx hb hK hP 1 0 rfl rfl h7 dX4_count_88 ?_
    cases h
    exact x_retR C0 rfl dX4_count_89
  have h := xf c5 h
  by_cases c8 : a1 = (2 : Int32)
  · have h := xt c8 h
    refine lv_tableIn (tgt := 90) hx hb dX4_count_1 (by rw [c8]; decide) (by rw [c8]; decide) (off := 89) (by rw [c8]; rfl) (by decide) ?_
    refine lv_aload_n hx hb dX4_count_90 rfl (lv_at hl 0 rfl) ?_
    refine va_get (D := D) (v := .ref (b 0)) (C := RX4) (T := TX4) (N := 10) hx hb hts iw_X4 hown hK hP 0 rfl rfl 0 (by decide) (hts _ mw_414) (fun _ h9 => h9) rfl dX4_count_91 ?_
    refine lv_bipush (v := 47) hx hb dX4_count_94 (by decide) ?_
    obtain ⟨x9, h10, h⟩ := bE h
    refine x_iald (cA := cI) hx hb hK hP 1 0 rfl rfl h10 dX4_count_96 ?_
    cases h
    exact x_retR C0 rfl dX4_count_97
  have h := xf c8 h
  by_cases c11 : a1 = (3 : Int32)
  · have h := xt c11 h
    refine lv_tableIn (tgt := 98) hx hb dX4_count_1 (by rw [c11]; decide) (by rw [c11]; decide) (off := 97) (by rw [c11]; rfl) (by decide) ?_
    refine lv_aload_n hx hb dX4_count_98 rfl (lv_at hl 0 rfl) ?_
    refine lv_iconst (v := 0) hx hb dX4_count_99 (by decide) ?_
    obtain ⟨x12, h13, h⟩ := bE h
    refine x_RV (As := [.int (0 : Int32)]) (rest := []) hF (c_X4_quarrelsThat l D cI cZ cT o (wMf b t) (b 0) rfl t.1 (0 : Int32) x12 h13) (cwV 1 hts (gqV mw_497 mw_498 mw_499 mw_428 mw_475) rfl rfl rfl hd_X4_quarrelsThat ⟨Nat.le_of_ble_eq_true rfl, Nat.le_of_ble_eq_true rfl⟩) hK hP q_T_bl (fun _ _ _ => trivial) [0, 1] rfl rfl rfl rfl hl.1 rfl (Nat.le_of_ble_eq_true rfl) dX4_count_100 ⟨Nat.zero_le _, Nat.zero_le _⟩ ?_
    cases h
    exact x_retR C0 rfl dX4_count_103
  have h := xf c11 h
  by_cases c14 : a1 = (4 : Int32)
  · have h := xt c14 h
    refine lv_tableIn (tgt := 104) hx hb dX4_count_1 (by rw [c14]; decide) (by rw [c14]; decide) (off := 103) (by rw [c14]; rfl) (by decide) ?_
    refine lv_aload_n hx hb dX4_count_104 rfl (lv_at hl 0 rfl) ?_
    obtain ⟨x15, h16, h⟩ := bE h
    refine x_RV (As := []) (rest := []) hF (c_X4_due l D cI cZ cT o (wMf b t) (b 0) rfl t.1  x15 h16) (cwV 0 hts (gqV mw_511 mw_512 mw_513 mw_428 mw_480) rfl rfl rfl hd_X4_due ⟨Nat.le_of_ble_eq_true rfl, Nat.le_of_ble_eq_true rfl⟩) hK hP q_T_bl (fun _ _ _ => trivial) [0, 1] rfl rfl rfl rfl hl.1 rfl (Nat.le_of_ble_eq_true rfl) dX4_count_105 ⟨Nat.zero_le _, Nat.zero_le _⟩ ?_
    cases h
    exact x_retR C0 rfl dX4_count_108
  have h := xf c14 h
  by_cases c17 : a1 = (5 : Int32)
  · have h := xt c17 h
    refine lv_tableIn (tgt := 109) hx hb dX4_count_1 (by rw [c17]; decide) (by rw [c17]; decide) (off := 108) (by rw [c17]; rfl) (by decide) ?_
    refine lv_aload_n hx hb dX4_count_109 rfl (lv_at hl 0 rfl) ?_
    refine lv_iconst (v := 1) hx hb dX4_count_110 (by decide) ?_
    obtain ⟨x18, h19, h⟩ := bE h
    refine x_RV (As := [.int (1 : Int32)]) (rest := []) hF (c_X4_quarrelsThat l D cI cZ cT o (wMf b t) (b 0) rfl t.1 (1 : Int32) x18 h19) (cwV 1 hts (gqV mw_497 mw_498 mw_499 mw_428 mw_475) rfl rfl rfl hd_X4_quarrelsThat ⟨Nat.le_of_ble_eq_true rfl, Nat.le_of_ble_eq_true rfl⟩) hK hP q_T_bl (fun _ _ _ => trivial) [0, 1] rfl rfl rfl rfl hl.1 rfl (Nat.le_of_ble_eq_true rfl) dX4_count_111 ⟨Nat.zero_le _, Nat.zero_le _⟩ ?_
    obtain ⟨x20, h21, h⟩ := bE h
    refine x_RS (As := [.int x18]) (rest := []) hF (c_X4_size l D cI cZ cT  x18 x20 h21) (va_cwS 1 hts (gqS mw_500 mw_501 mw_428 mw_476) rfl rfl rfl hd_X4_size.2 ⟨Nat.le_of_ble_eq_true rfl, Nat.le_of_ble_eq_true rfl⟩) hK hP q_T_bl (fun _ _ _ => trivial) [] rfl rfl hl.1 rfl (Nat.le_of_ble_eq_true rfl) dX4_count_114 ⟨Nat.zero_le _, Nat.zero_le _⟩ ?_
    cases h
    exact x_retR C0 rfl dX4_count_117
  have h := xf c17 h
  by_cases c22 : a1 = (6 : Int32)
  · have h := xt c22 h
    refine lv_tableIn (tgt := 118) hx hb dX4_count_1 (by rw [c22]; decide) (by rw [c22]; decide) (off := 117) (by rw [c22]; rfl) (by decide) ?_
    refine lv_aload_n hx hb dX4_count_118 rfl (lv_at hl 0 rfl) ?_
    refine lv_iconst (v := 2) hx hb dX4_count_119 (by decide) ?_
    obtain ⟨x23, h24, h⟩ := bE h
    refine x_RV (As := [.int (2 : Int32)]) (rest := []) hF (c_X4_quarrelsThat l D cI cZ cT o (wMf b t) (b 0) rfl t.1 (2 : Int32) x23 h24) (cwV 1 hts (gqV mw_497 mw_498 mw_499 mw_428 mw_475) rfl rfl rfl hd_X4_quarrelsThat ⟨Nat.le_of_ble_eq_true rfl, Nat.le_of_ble_eq_true rfl⟩) hK hP q_T_bl (fun _ _ _ => trivial) [0, 1] rfl rfl rfl rfl hl.1 rfl (Nat.le_of_ble_eq_true rfl) dX4_count_120 ⟨Nat.zero_le _, Nat.zero_le _⟩ ?_
    obtain ⟨x25, h26, h⟩ := bE h
    refine x_RS (As := [.int x23]) (rest := []) hF (c_X4_size l D cI cZ cT  x23 x25 h26) (va_cwS 1 hts (gqS mw_500 mw_501 mw_428 mw_476) rfl rfl rfl hd_X4_size.2 ⟨Nat.le_of_ble_eq_true rfl, Nat.le_of_ble_eq_true rfl⟩) hK hP q_T_bl (fun _ _ _ => trivial) [] rfl rfl hl.1 rfl (Nat.le_of_ble_eq_true rfl) dX4_count_123 ⟨Nat.zero_le _, Nat.zero_le _⟩ ?_
    cases h
    exact x_retR C0 rfl dX4_count_126
  have h := xf c22 h
  by_cases c27 : a1 = (7 : Int32)
  · have h := xt c27 h
    refine lv_tableIn (tgt := 127) hx hb dX4_count_1 (by rw [c27]; decide) (by rw [c27]; decide) (off := 126) (by rw [c27]; rfl) (by decide) ?_
    refine lv_aload_n hx hb dX4_count_127 rfl (lv_at hl 0 rfl) ?_
    refine va_get (D := D) (v := .ref (b 0)) (C := RX4) (T := TX4) (N := 10) hx hb hts iw_X4 hown hK hP 0 rfl rfl 0 (by decide) (hts _ mw_414) (fun _ h9 => h9) rfl dX4_count_128 ?_
    refine lv_bipush (v := 46) hx hb dX4_count_131 (by decide) ?_
    obtain ⟨x28, h29, h⟩ := bE h
    refine x_iald (cA := cI) hx hb hK hP 1 0 rfl rfl h29 dX4_count_133 ?_
    cases h
    exact x_retR C0 rfl dX4_count_134
  have h := xf c27 h
  by_cases c30 : a1 = (8 : Int32)
  · have h := xt c30 h
    refine lv_tableIn (tgt := 135) hx hb dX4_count_1 (by rw [c30]; decide) (by rw [c30]; decide) (off := 134) (by rw [c30]; rfl) (by decide) ?_
    refine lv_aload_n hx hb dX4_count_135 rfl (lv_at hl 0 rfl) ?_
    obtain ⟨x31, h32, h⟩ := bE h
    refine x_RV (As := []) (rest := []) hF (c_X4_sworn l D cI cZ cT o (wMf b t) (b 0) rfl t.1  x31 h32) (cwV 0 hts (gqV mw_577 mw_578 mw_579 mw_428 mw_575) rfl rfl rfl hd_X4_sworn ⟨Nat.le_of_ble_eq_true rfl, Nat.le_of_ble_eq_true rfl⟩) hK hP q_T_bl (fun _ _ _ => trivial) [0, 1] rfl rfl rfl rfl hl.1 rfl (Nat.le_of_ble_eq_true rfl) dX4_count_136 ⟨Nat.zero_le _, Nat.zero_le _⟩ ?_
    cases h
    exact x_retR C0 rfl dX4_count_139
  have h := xf c30 h
  by_cases c33 : a1 = (9 : Int32)
  · have h := xt c33 h
    refine lv_tableIn (tgt := 140) hx hb dX4_count_1 (by rw [c33]; decide) (by rw [c33]; decide) (off := 139) (by rw [c33]; rfl) (by decide) ?_
    refine lv_aload_n hx hb dX4_count_140 rfl (lv_at hl 0 rfl) ?_
    refine va_get (D := D) (v := .ref (b 0)) (C := RX4) (T := TX4) (N := 10) hx hb hts iw_X4 hown hK hP 0 rfl rfl 0 (by decide) (hts _ mw_414) (fun _ h9 => h9) rfl dX4_count_141 ?_
    refine lv_iload_n hx hb dX4_count_144 rfl (lv_at hl 1 rfl) ?_
    refine lv_bipush (v := 9) hx hb dX4_count_145 (by decide) ?_
    refine lv_isub hx hb dX4_count_147 ?_
    obtain ⟨x34, h35, h⟩ := bE h
    refine x_iald (cA := cI) hx hb hK hP 1 0 rfl rfl h35 dX4_count_148 ?_
    cases h
    exact x_retR C0 rfl dX4_count_149
  have h := xf c33 h
  by_cases c36 : a1 = (10 : Int32)
  · have h := xt c36 h
    refine lv_tableIn (tgt := 140) hx hb dX4_count_1 (by rw [c36]; decide) (by rw [c36]; decide) (off := 139) (by rw [c36]; rfl) (by decide) ?_
    refine lv_aload_n hx hb dX4_count_140 rfl (lv_at hl 0 rfl) ?_
    refine va_get (D := D) (v := .ref (b 0)) (C := RX4) (T := TX4) (N := 10) hx hb hts iw_X4 hown hK hP 0 rfl rfl 0 (by decide) (hts _ mw_414) (fun _ h9 => h9) rfl dX4_count_141 ?_
    refine lv_iload_n hx hb dX4_count_144 rfl (lv_at hl 1 rfl) ?_
    refine lv_bipush (v := 9) hx hb dX4_count_145 (by decide) ?_
    refine lv_isub hx hb dX4_count_147 ?_
    obtain ⟨x37, h38, h⟩ := bE h
    refine x_iald (cA := cI) hx hb hK hP 1 0 rfl rfl h38 dX4_count_148 ?_
    cases h
    exact x_retR C0 rfl dX4_count_149
  have h := xf c36 h
  by_cases c39 : a1 = (11 : Int32)
  · have h := xt c39 h
    refine lv_tableIn (tgt := 140) hx hb dX4_count_1 (by rw [c39]; decide) (by rw [c39]; decide) (off := 139) (by rw [c39]; rfl) (by decide) ?_
    refine lv_aload_n hx hb dX4_count_140 rfl (lv_at hl 0 rfl) ?_
    refine va_get (D := D) (v := .ref (b 0)) (C := RX4) (T := TX4) (N := 10) hx hb hts iw_X4 hown hK hP 0 rfl rfl 0 (by decide) (hts _ mw_414) (fun _ h9 => h9) rfl dX4_count_141 ?_
    refine lv_iload_n hx hb dX4_count_144 rfl (lv_at hl 1 rfl) ?_
    refine lv_bipush (v := 9) hx hb dX4_count_145 (by decide) ?_
    refine lv_isub hx hb dX4_count_147 ?_
    obtain ⟨x40, h41, h⟩ := bE h
    refine x_iald (cA := cI) hx hb hK hP 1 0 rfl rfl h41 dX4_count_148 ?_
    cases h
    exact x_retR C0 rfl dX4_count_149
  have h := xf c39 h
  by_cases c42 : a1 = (12 : Int32)
  · have h := xt c42 h
    refine lv_tableIn (tgt := 140) hx hb dX4_count_1 (by rw [c42]; decide) (by rw [c42]; decide) (off := 139) (by rw [c42]; rfl) (by decide) ?_
    refine lv_aload_n hx hb dX4_count_140 rfl (lv_at hl 0 rfl) ?_
    refine va_get (D := D) (v := .ref (b 0)) (C := RX4) (T := TX4) (N := 10) hx hb hts iw_X4 hown hK hP 0 rfl rfl 0 (by decide) (hts _ mw_414) (fun _ h9 => h9) rfl dX4_count_141 ?_
    refine lv_iload_n hx hb dX4_count_144 rfl (lv_at hl 1 rfl) ?_
    refine lv_bipush (v := 9) hx hb dX4_count_145 (by decide) ?_
    refine lv_isub hx hb dX4_count_147 ?_
    obtain ⟨x43, h44, h⟩ := bE h
    refine x_iald (cA := cI) hx hb hK hP 1 0 rfl rfl h44 dX4_count_148 ?_
    cases h
    exact x_retR C0 rfl dX4_count_149
  have h := xf c42 h
  by_cases c45 : a1 = (13 : Int32)
  · have h := xt c45 h
    refine lv_tableIn (tgt := 150) hx hb dX4_count_1 (by rw [c45]; decide) (by rw [c45]; decide) (off := 149) (by rw [c45]; rfl) (by decide) ?_
    refine lv_aload_n hx hb dX4_count_150 rfl (lv_at hl 0 rfl) ?_
    refine va_get (D := D) (v := .int t.2.2.2.2.2.2.2.1) (C := RX4) (T := TX4) (N := 10) hx hb hts iw_X4 hown hK hP 0 rfl rfl 7 (by decide) (hts _ mw_576) (fun _ h9 => h9) rfl dX4_count_151 ?_
    cases h
    exact x_retR C0 rfl dX4_count_154
  have h := xf c45 h
  by_cases c46 : a1 = (14 : Int32)
  · have h := xt c46 h
    refine lv_tableIn (tgt := 155) hx hb dX4_count_1 (by rw [c46]; decide) (by rw [c46]; decide) (off := 154) (by rw [c46]; rfl) (by decide) ?_
    refine lv_aload_n hx hb dX4_count_155 rfl (lv_at hl 0 rfl) ?_
    refine va_get (D := D) (v := .int t.2.2.2.1) (C := RX4) (T := TX4) (N := 10) hx hb hts iw_X4 hown hK hP 0 rfl rfl 3 (by decide) (hts _ mw_424) (fun _ h9 => h9) rfl dX4_count_156 ?_
    cases h
    exact x_retR C0 rfl dX4_count_159
  have h := xf c46 h
  refine lv_tableOut (tgt := 160) hx hb dX4_count_1 (by have := lv_neT c2 (a := 0) rfl; have := lv_neT c5 (a := 1) rfl; have := lv_neT c8 (a := 2) rfl; have := lv_neT c11 (a := 3) rfl; have := lv_neT c14 (a := 4) rfl; have := lv_neT c17 (a := 5) rfl; have := lv_neT c22 (a := 6) rfl; have := lv_neT c27 (a := 7) rfl; have := lv_neT c30 (a := 8) rfl; have := lv_neT c33 (a := 9) rfl; have := lv_neT c36 (a := 10) rfl; have := lv_neT c39 (a := 11) rfl; have := lv_neT c42 (a := 12) rfl; have := lv_neT c45 (a := 13) rfl; have := lv_neT c46 (a := 14) rfl; omega) (by decide) ?_
  refine lv_bipush (v := (-2)) hx hb dX4_count_160 (by decide) ?_
  cases h
  exact x_retR C0 rfl dX4_count_162

end G_MB

section G_MD
variable {p : Program} {l : Launch} {e : Env} {s : State} {m : MethodId} {args : Array Value} {below : List Frame} {meth : Method} {c : Code} {D : va_G} {cI cZ cT : ClassId}

/-! QuarrelWaysModel.putAside ()V -/
def f_X4_putAside_L2 : Nat → MM → Int32 → Option (MM)
  | 0, _, _ => none
  | n + 1, z0, y1 => (if (181 : Int32) ≤ y1 then some z0 else ((rd z0.1 181 y1).bind fun x2 => ((wr z0.2.1 181 y1 x2).bind fun g4 => f_X4_putAside_L2 n (M1 z0 g4) (y1 + (1 : Int32)))))
def f_X4_putAside (t : MM) : Option (MM) := ((f_X4_putAside_L2 2000 t (0 : Int32)).bind fun v6 => some v6)
abbrev rm_X4_putAside : Room := { frames := 0, cells := 0, slots := 0, locals := 0 }
theorem hd_X4_putAside : yX4_putAside.cls = RX4 ∧ yX4_putAside.cls ≠ "java/lang/invoke/MethodHandle" ∧ yX4_putAside.cls ≠ "java/lang/invoke/VarHandle" ∧ (parseMethodDescriptor yX4_putAside.desc).map (fun d => d.parameters.length) = some 0 := by decide +kernel
set_option maxHeartbeats 4000000 in
set_option maxRecDepth 100000 in
theorem k_X4_putAside_L2 {Q : State → Prop} {v : MM} (o : Nat) (b : Nat → Nat) {A : Nat → Prop} (hA : ∀ q, s.heap.size ≤ q → A q) (C0 : q_At p s m args meth c cX4_putAside 2 none RX4) (hK : va_K D vwCl (q_tys cI cZ cT) s) (hj : ∀ (H : Heap) (locs : List Loc) (ls : Array Slot), va_P D vwCl (wM cI cZ o b v) H → va_D A (wM cI cZ o b v) → va_S A s.heap H locs → lv_has ls 2 [] → W p l e rm_X4_putAside s m args below meth c H locs 0 0 Q (F0 m 27 ls [])) : ∀ (n : Nat) (z0 : MM) (y1 : Int32) (H : Heap) (locs : List Loc) (ls : Array Slot), va_P D vwCl (wM cI cZ o b z0) H → va_D A (wM cI cZ o b z0) → va_S A s.heap H locs → lv_has ls 2 [(0, .ref o), (1, .int y1)] → f_X4_putAside_L2 n z0 y1 = some v → W p l e rm_X4_putAside s m args below meth c H locs 0 0 (Q) (F0 m 2 ls []) := by
  obtain ⟨hx, hb, hr, hml, hown, hts, hlocks⟩ := id C0
  have hF : CallFix p m c cX4_putAside 2 s args BW RX4 := ⟨hx, hb, hml, hown, hts⟩
  intro n
  induction n with
  | zero =>
    intro z0 y1 H locs ls hP hD hS hl h
    rw [f_X4_putAside_L2] at h
    cases h
  | succ n ih =>
    intro z0 y1 H locs ls hP hD hS hl h
    rw [f_X4_putAside_L2] at h
    refine lv_iload_n hx hb dX4_putAside_2 rfl (lv_at hl 1 rfl) ?_
    refine lv_sipush (v := 181) hx hb dX4_putAside_3 (by decide) ?_
    refine lv_icmp_ge (tgt := 27) hx hb dX4_putAside_6 (by decide) (fun c1 => ?_) (fun c1 => ?_)
    · have h := xt c1 h
      cases h
      exact hj _ _ _ hP hD hS (lv_sub hl [] rfl)
    · have h := xf c1 h
      refine lv_aload_n hx hb dX4_putAside_9 rfl (lv_at hl 0 rfl) ?_
      refine va_get (D := D) (v := .ref (b 1)) (C := RX4) (T := TX4) (N := 10) hx hb hts iw_X4 hown hK hP 0 rfl rfl 1 (by decide) (hts _ mw_415) (fun _ h9 => h9) rfl dX4_putAside_10 ?_
      refine lv_iload_n hx hb dX4_putAside_13 rfl (lv_at hl 1 rfl) ?_
      refine lv_aload_n hx hb dX4_putAside_14 rfl (lv_at hl 0 rfl) ?_
      refine va_get (D := D) (v := .ref (b 0)) (C := RX4) (T := TX4) (N := 10) hx hb hts iw_X4 hown hK hP 0 rfl rfl 0 (by decide) (hts _ mw_414) (fun _ h9 => h9) rfl dX4_putAside_15 ?_
      refine lv_iload_n hx hb dX4_putAside_18 rfl (lv_at hl 1 rfl) ?_
      obtain ⟨x2, h3, h⟩ := bE h
      refine x_iald (cA := cI) hx hb hK hP 1 0 rfl rfl h3 dX4_putAside_19 ?_
      obtain ⟨g4, h5, h⟩ := bE h
      refine x_iast (cA := cI) hx hb hK hP hD hS 2 0 rfl rfl h5 dX4_putAside_20 (fun H locs hP hD hS => ?_)
      have hP : va_P D vwCl (wM cI cZ o b (M1 z0 g4)) H := hP
      have hD : va_D A (wM cI cZ o b (M1 z0 g4)) := hD
      refine lv_iinc (v := (y1 + (1 : Int32))) (lv' := [(1, .int (y1 + (1 : Int32))), (0, .ref o)]) hx hb dX4_putAside_21 hl (k := 1) rfl rfl (by decide) rfl (fun ls hl => ?_)
      refine lv_goto (tgt := 2) hx hb dX4_putAside_24 (by decide) ?_
      exact ih (M1 z0 g4) (y1 + (1 : Int32)) _ _ _ hP hD hS (lv_sub hl [1, 0] rfl) h
set_option maxHeartbeats 4000000 in
set_option maxRecDepth 100000 in
theorem c_X4_putAside (l : Launch) (D : va_G) (cI cZ cT : ClassId) (sz : Nat) (o : Nat) (b : Nat → Nat) (t : MM) (r : MM) (h : f_X4_putAside t = some r) : Met l yX4_putAside (wq yX4_putAside cX4_putAside 2 none) rm_X4_putAside (q_M D (q_tys cI cZ cT) sz (wM cI cZ o b t) q_T [.ref o]) (va_Qv (fun _ => True) (q_B D (wM cI cZ o b t) sz (wM cI cZ o b r)) (va_A (wM cI cZ o b t) sz)) 0 0 (va_A (wM cI cZ o b t) sz) := by
  refine q_MI (cc := cX4_putAside) (maxL := 2) (ret := none) (E := fun sz => q_T) (Qc := fun sz => (va_Qv (fun _ => True) (q_B D (wM cI cZ o b t) sz (wM cI cZ o b r)) (va_A (wM cI cZ o b t) sz))) (free := fun sz => va_A (wM cI cZ o b t) sz) (plainFor_of_name (by decide)) (Nat.le_of_ble_eq_true rfl) (fun p e s m below meth c C0 hname hP hK hD hE ls hl => ?_)
  have hA : ∀ q, s.heap.size ≤ q → (va_A (wM cI cZ o b t) s.heap.size) q := fun _ => Or.inr
  have hS : va_S (va_A (wM cI cZ o b t) s.heap.size) s.heap s.heap [] := va_S.rf
  have hl : lv_has ls 2 [(0, .ref o)] := hl
  obtain ⟨hx, hb, hr, hml, hown, hts, hlocks⟩ := id C0
  have hF : CallFix p m c cX4_putAside 2 s _ BW RX4 := ⟨hx, hb, hml, hown, hts⟩
  rw [f_X4_putAside] at h
  refine lv_iconst (v := 0) hx hb dX4_putAside_0 (by decide) ?_
  refine lv_istore_n (lv' := [(1, .int (0 : Int32)), (0, .ref o)]) hx hb dX4_putAside_1 rfl hl (by decide) rfl (fun ls hl => ?_)
  obtain ⟨v6, h7, h⟩ := bE h
  refine k_X4_putAside_L2 (v := v6) o b hA C0 hK (fun H locs ls hP hD hS hl => ?_) 2000 t (0 : Int32) _ _ _ hP hD hS (lv_sub hl [1, 0] rfl) h7
  cases h
  exact x_retV C0 hP hD hS dX4_putAside_27

/-! QuarrelWaysModel.end (I)I -/
def f_X4_end_L64 (y1 : Int32) : Nat → MM → Int32 → Option (MM)
  | 0, _, _ => none
  | n + 1, z0, y2 => (if (181 : Int32) ≤ y2 then some z0 else ((rd z0.2.1 181 y2).bind fun x4 => ((wr z0.2.2.1 1086 (((181 : Int32) * z0.2.2.2.1) + y2) x4).bind fun g6 => f_X4_end_L64 y1 n (M2 z0 g6) (y2 + (1 : Int32)))))
def f_X4_end_L23 (y1 : Int32) : Nat → MM → Int32 → Option (MM)
  | 0, _, _ => none
  | n + 1, z0, y2 => (if (905 : Int32) ≤ y2 then some z0 else ((rd z0.2.2.1 1086 ((181 : Int32) + y2)).bind fun x12 => ((wr z0.2.2.1 1086 y2 x12).bind fun g14 => f_X4_end_L23 y1 n (M2 z0 g14) (y2 + (1 : Int32)))))
def f_X4_end (t : MM) (a1 : Int32) : Option (Int32 × MM) := (if 0 ≤ a1 then (((if t.2.2.2.1 = (6 : Int32) then ((f_X4_end_L23 a1 2000 t (0 : Int32)).bind fun v16 => some (M3 v16 (v16.2.2.2.1 - (1 : Int32)))) else some t) : Option (MM)).bind fun v2 => ((f_X4_end_L64 a1 2000 v2 (0 : Int32)).bind fun v8 => some (a1, (M3 v8 (v8.2.2.2.1 + (1 : Int32)))))) else (if a1 = (-6 : Int32) then (((if t.2.2.2.1 = (6 : Int32) then ((f_X4_end_L23 a1 2000 t (0 : Int32)).bind fun v23 => some (M3 v23 (v23.2.2.2.1 - (1 : Int32)))) else some t) : Option (MM)).bind fun v19 => ((f_X4_end_L64 a1 2000 v19 (0 : Int32)).bind fun v20 => some (a1, (M3 v20 (v20.2.2.2.1 + (1 : Int32)))))) else some (a1, t)))
abbrev rm_X4_end : Room := { frames := 0, cells := 0, slots := 0, locals := 0 }
theorem hd_X4_end : yX4_end.cls = RX4 ∧ yX4_end.cls ≠ "java/lang/invoke/MethodHandle" ∧ yX4_end.cls ≠ "java/lang/invoke/VarHandle" ∧ (parseMethodDescriptor yX4_end.desc).map (fun d => d.parameters.length) = some 1 := by decide +kernel
set_option maxHeartbeats 4000000 in
set_option maxRecDepth 100000 in
theorem k_X4_end_L64 {Q : State → Prop} {v : MM} (o : Nat) (b : Nat → Nat) (y1 : Int32) {A : Nat → Prop} (hA : ∀ q, s.heap.size ≤ q → A q) (C0 : q_At p s m args meth c cX4_end 3 (some .int) RX4) (hK : va_K D vwCl (q_tys cI cZ cT) s) (hj : ∀ (H : Heap) (locs : List Loc) (ls : Array Slot), va_P D vwCl (wM cI cZ o b v) H → va_D A (wM cI cZ o b v) → va_S A s.heap H locs → lv_has ls 3 [(0, .ref o), (1, .int y1)] → W p l e rm_X4_end s m args below meth c H locs 0 0 Q (F0 m 98 ls [])) : ∀ (n : Nat) (z0 : MM) (y2 : Int32) (H : Heap) (locs : List Loc) (ls : Array Slot), va_P D vwCl (wM cI cZ o b z0) H → va_D A (wM cI cZ o b z0) → va_S A s.heap H locs → lv_has ls 3 [(0, .ref o), (1, .int y1), (2, .int y2)] → f_X4_end_L64 y1 n z0 y2 = some v → W p l e rm_X4_end s m args below meth c H locs 0 0 (Q) (F0 m 64 ls []) := by
  obtain ⟨hx, hb, hr, hml, hown, hts, hlocks⟩ := id C0
  have hF : CallFix p m c cX4_end 3 s args BW RX4 := ⟨hx, hb, hml, hown, hts⟩
  intro n
  induction n with
  | zero =>
    intro z0 y2 H locs ls hP hD hS hl h
    rw [f_X4_end_L64] at h
    cases h
  | succ n ih =>
    intro z0 y2 H locs ls hP hD hS hl h
    rw [f_X4_end_L64] at h
    refine lv_iload_n hx hb dX4_end_64 rfl (lv_at hl 2 rfl) ?_
    refine lv_sipush (v := 181) hx hb dX4_end_65 (by decide) ?_
    refine lv_icmp_ge (tgt := 98) hx hb dX4_end_68 (by decide) (fun c3 => ?_) (fun c3 => ?_)
    · have h := xt c3 h
      cases h
      exact hj _ _ _ hP hD hS (lv_sub hl [0, 1] rfl)
    · have h := xf c3 h
      refine lv_aload_n hx hb dX4_end_71 rfl (lv_at hl 0 rfl) ?_
      refine va_get (D := D) (v := .ref (b 2)) (C := RX4) (T := TX4) (N := 10) hx hb hts iw_X4 hown hK hP 0 rfl rfl 2 (by decide) (hts _ mw_416) (fun _ h9 => h9) rfl dX4_end_72 ?_
      refine lv_sipush (v := 181) hx hb dX4_end_75 (by decide) ?_
      refine lv_aload_n hx hb dX4_end_78 rfl (lv_at hl 0 rfl) ?_
      refine va_get (D := D) (v := .int z0.2.2.2.1) (C := RX4) (T := TX4) (N := 10) hx hb hts iw_X4 hown hK hP 0 rfl rfl 3 (by decide) (hts _ mw_424) (fun _ h9 => h9) rfl dX4_end_79 ?_
      refine lv_imul hx hb dX4_end_82 ?_
      refine lv_iload_n hx hb dX4_end_83 rfl (lv_at hl 2 rfl) ?_
      refine lv_iadd hx hb dX4_end_84 ?_
      refine lv_aload_n hx hb dX4_end_85 rfl (lv_at hl 0 rfl) ?_
      refine va_get (D := D) (v := .ref (b 1)) (C := RX4) (T := TX4) (N := 10) hx hb hts iw_X4 hown hK hP 0 rfl rfl 1 (by decide) (hts _ mw_415) (fun _ h9 => h9) rfl dX4_end_86 ?_
      refine lv_iload_n hx hb dX4_end_89 rfl (lv_at hl 2 rfl) ?_
      obtain ⟨x4, h5, h⟩ := bE h
      refine x_iald (cA := cI) hx hb hK hP 2 0 rfl rfl h5 dX4_end_90 ?_
      obtain ⟨g6, h7, h⟩ := bE h
      refine x_iast (cA := cI) hx hb hK hP hD hS 3 0 rfl rfl h7 dX4_end_91 (fun H locs hP hD hS => ?_)
      have hP : va_P D vwCl (wM cI cZ o b (M2 z0 g6)) H := hP
      have hD : va_D A (wM cI cZ o b (M2 z0 g6)) := hD
      refine lv_iinc (v := (y2 + (1 : Int32))) (lv' := [(2, .int (y2 + (1 : Int32))), (0, .ref o), (1, .int y1)]) hx hb dX4_end_92 hl (k := 2) rfl rfl (by decide) rfl (fun ls hl => ?_)
      refine lv_goto (tgt := 64) hx hb dX4_end_95 (by decide) ?_
      exact ih (M2 z0 g6) (y2 + (1 : Int32)) _ _ _ hP hD hS (lv_sub hl [1, 2, 0] rfl) h
set_option maxHeartbeats 4000000 in
set_option maxRecDepth 100000 in
theorem k_X4_end_L23 {Q : State → Prop} {v : MM} (o : Nat) (b : Nat → Nat) (y1 : Int32) {A : Nat → Prop} (hA : ∀ q, s.heap.size ≤ q → A q) (C0 : q_At p s m args meth c cX4_end 3 (some .int) RX4) (hK : va_K D vwCl (q_tys cI cZ cT) s) (hj : ∀ (H : Heap) (locs : List Loc) (ls : Array Slot), va_P D vwCl (wM cI cZ o b v) H → va_D A (wM cI cZ o b v) → va_S A s.heap H locs → lv_has ls 3 [(0, .ref o), (1, .int y1)] → W p l e rm_X4_end s m args below meth c H locs 0 0 Q (F0 m 52 ls [])) : ∀ (n : Nat) (z0 : MM) (y2 : Int32) (H : Heap) (locs : List Loc) (ls : Array Slot), va_P D vwCl (wM cI cZ o b z0) H → va_D A (wM cI cZ o b z0) → va_S A s.heap H locs → lv_has ls 3 [(0, .ref o), (1, .int y1), (2, .int y2)] → f_X4_end_L23 y1 n z0 y2 = some v → W p l e rm_X4_end s m args below meth c H locs 0 0 (Q) (F0 m 23 ls []) := by
  obtain ⟨hx, hb, hr, hml, hown, hts, hlocks⟩ := id C0
  have hF : CallFix p m c cX4_end 3 s args BW RX4 := ⟨hx, hb, hml, hown, hts⟩
  intro n
  induction n with
  | zero =>
    intro z0 y2 H locs ls hP hD hS hl h
    rw [f_X4_end_L23] at h
    cases h
  | succ n ih =>
    intro z0 y2 H locs ls hP hD hS hl h
    rw [f_X4_end_L23] at h
    refine lv_iload_n hx hb dX4_end_23 rfl (lv_at hl 2 rfl) ?_
    refine lv_sipush (v := 905) hx hb dX4_end_24 (by decide) ?_
    refine lv_icmp_ge (tgt := 52) hx hb dX4_end_27 (by decide) (fun c11 => ?_) (fun c11 => ?_)
    · have h := xt c11 h
      cases h
      exact hj _ _ _ hP hD hS (lv_sub hl [0, 1] rfl)
    · have h := xf c11 h
      refine lv_aload_n hx hb dX4_end_30 rfl (lv_at hl 0 rfl) ?_
      refine va_get (D := D) (v := .ref (b 2)) (C := RX4) (T := TX4) (N := 10) hx hb hts iw_X4 hown hK hP 0 rfl rfl 2 (by decide) (hts _ mw_416) (fun _ h9 => h9) rfl dX4_end_31 ?_
      refine lv_iload_n hx hb dX4_end_34 rfl (lv_at hl 2 rfl) ?_
      refine lv_aload_n hx hb dX4_end_35 rfl (lv_at hl 0 rfl) ?_
      refine va_get (D := D) (v := .ref (b 2)) (C := RX4) (T := TX4) (N := 10) hx hb hts iw_X4 hown hK hP 0 rfl rfl 2 (by decide) (hts _ mw_416) (fun _ h9 => h9) rfl dX4_end_36 ?_
      refine lv_sipush (v := 181) hx hb dX4_end_39 (by decide) ?_
      refine lv_iload_n hx hb dX4_end_42 rfl (lv_at hl 2 rfl) ?_
      refine lv_iadd hx hb dX4_end_43 ?_
      obtain ⟨x12, h13, h⟩ := bE h
      refine x_iald (cA := cI) hx hb hK hP 3 0 rfl rfl h13 dX4_end_44 ?_
      obtain ⟨g14, h15, h⟩ := bE h
      refine x_iast (cA := cI) hx hb hK hP hD hS 3 0 rfl rfl h15 dX4_end_45 (fun H locs hP hD hS => ?_)
      have hP : va_P D vwCl (wM cI cZ o b (M2 z0 g14)) H := hP
      have hD : va_D A (wM cI cZ o b (M2 z0 g14)) := hD
      refine lv_iinc (v := (y2 + (1 : Int32))) (lv' := [(2, .int (y2 + (1 : Int32))), (0, .ref o), (1, .int y1)]) hx hb dX4_end_46 hl (k := 2) rfl rfl (by decide) rfl (fun ls hl => ?_)
      refine lv_goto (tgt := 23) hx hb dX4_end_49 (by decide) ?_
      exact ih (M2 z0 g14) (y2 + (1 : Int32)) _ _ _ hP hD hS (lv_sub hl [1, 2, 0] rfl) h
set_option maxHeartbeats 4000000 in
set_option maxRecDepth 100000 in
theorem c_X4_end (l : Launch) (D : va_G) (cI cZ cT : ClassId) (sz : Nat) (o : Nat) (b : Nat → Nat) (t : MM) (a1 : Int32) (r : Int32 × MM) (h : f_X4_end t a1 = some r) : Met l yX4_end (wq yX4_end cX4_end 3 (some .int)) rm_X4_end (q_M D (q_tys cI cZ cT) sz (wM cI cZ o b t) q_T [.ref o, .int a1]) (va_Qi (fun r' _ => r' = r.1) (q_B D (wM cI cZ o b t) sz (wM cI cZ o b r.2)) (va_A (wM cI cZ o b t) sz)) 0 0 (va_A (wM cI cZ o b t) sz) := by
  refine q_MI (cc := cX4_end) (maxL := 3) (ret := (some .int)) (E := fun sz => q_T) (Qc := fun sz => (va_Qi (fun r' _ => r' = r.1) (q_B D (wM cI cZ o b t) sz (wM cI cZ o b r.2)) (va_A (wM cI cZ o b t) sz))) (free := fun sz => va_A (wM cI cZ o b t) sz) (plainFor_of_name (by decide)) (Nat.le_of_ble_eq_true rfl) (fun p e s m below meth c C0 hname hP hK hD hE ls hl => ?_)
  have hA : ∀ q, s.heap.size ≤ q → (va_A (wM cI cZ o b t) s.heap.size) q := fun _ => Or.inr
  have hS : va_S (va_A (wM cI cZ o b t) s.heap.size) s.heap s.heap [] := va_S.rf
  have hl : lv_has ls 3 [(0, .ref o), (1, .int a1)] := hl
  obtain ⟨hx, hb, hr, hml, hown, hts, hlocks⟩ := id C0
  have hF : CallFix p m c cX4_end 3 s _ BW RX4 := ⟨hx, hb, hml, hown, hts⟩
  rw [f_X4_end] at h
  refine lv_iload_n hx hb dX4_end_0 rfl (lv_at hl 1 rfl) ?_
  refine lv_if_ge (tgt := 12) hx hb dX4_end_1 (by decide) (fun c1 => ?_) (fun c1 => ?_)
  · have h := xt c1 h
    refine lv_aload_n hx hb dX4_end_12 rfl (lv_at hl 0 rfl) ?_
    refine va_get (D := D) (v := .int t.2.2.2.1) (C := RX4) (T := TX4) (N := 10) hx hb hts iw_X4 hown hK hP 0 rfl rfl 3 (by decide) (hts _ mw_424) (fun _ h9 => h9) rfl dX4_end_13 ?_
    refine lv_bipush (v := 6) hx hb dX4_end_16 (by decide) ?_
    refine x_jM (V := MM) (nL := 3) (D := D) (A := (va_A (wM cI cZ o b t) s.heap.size)) (H0 := s.heap) (fun v2 => [(0, .ref o), (1, .int a1)]) 62 (fun v2 => []) (fun v2 => wM cI cZ o b v2) h (fun v2 h H locs ls hP hD hS hl => ?_) (fun v2 h hj => ?_)
    · refine lv_iconst (v := 0) hx hb dX4_end_62 (by decide) ?_
      refine lv_istore_n (lv' := [(2, .int (0 : Int32)), (0, .ref o), (1, .int a1)]) hx hb dX4_end_63 rfl hl (by decide) rfl (fun ls hl => ?_)
      obtain ⟨v8, h9, h⟩ := bE h
      refine k_X4_end_L64 (v := v8) o b a1 hA C0 hK (fun H locs ls hP hD hS hl => ?_) 2000 v2 (0 : Int32) _ _ _ hP hD hS (lv_sub hl [1, 2, 0] rfl) h9
      refine lv_aload_n hx hb dX4_end_98 rfl (lv_at hl 0 rfl) ?_
      refine lv_dup hx hb dX4_end_99 rfl ?_
      refine va_get (D := D) (v := .int v8.2.2.2.1) (C := RX4) (T := TX4) (N := 10) hx hb hts iw_X4 hown hK hP 0 rfl rfl 3 (by decide) (hts _ mw_424) (fun _ h9 => h9) rfl dX4_end_100 ?_
      refine lv_iconst (v := 1) hx hb dX4_end_103 (by decide) ?_
      refine lv_iadd hx hb dX4_end_104 ?_
      refine va_put (D := D) (v := .int (v8.2.2.2.1 + (1 : Int32))) (ty := .int) (C := RX4) (T := TX4) (N := 10) hx hb hts iw_X4 tyX4 tyX4_ok nmX4 hown hK hP hD hS 0 rfl rfl 3 (by decide) (hts _ mw_424) (fun _ h9 => h9) rfl (by decide +kernel) rfl rfl (Nat.le_of_ble_eq_true rfl) dX4_end_105 (fun H locs hP hD hS => ?_)
      have hP : va_P D vwCl (wM cI cZ o b (M3 v8 (v8.2.2.2.1 + (1 : Int32)))) H := hP
      have hD : va_D (va_A (wM cI cZ o b t) s.heap.size) (wM cI cZ o b (M3 v8 (v8.2.2.2.1 + (1 : Int32)))) := hD
      refine lv_iload_n hx hb dX4_end_108 rfl (lv_at hl 1 rfl) ?_
      cases h
      exact x_retM C0 rfl hP hD hS dX4_end_109
    · refine lv_icmp_ne (tgt := 62) hx hb dX4_end_18 (by decide) (fun c10 => ?_) (fun c10 => ?_)
      · have h := xf c10 h
        cases h
        exact hj _ _ _ hP hD hS (lv_sub hl [0, 1] rfl)
      · have h := xt c10 h
        refine lv_iconst (v := 0) hx hb dX4_end_21 (by decide) ?_
        refine lv_istore_n (lv' := [(2, .int (0 : Int32)), (0, .ref o), (1, .int a1)]) hx hb dX4_end_22 rfl hl (by decide) rfl (fun ls hl => ?_)
        obtain ⟨v16, h17, h⟩ := bE h
        refine k_X4_end_L23 (v := v16) o b a1 hA C0 hK (fun H locs ls hP hD hS hl => ?_) 2000 t (0 : Int32) _ _ _ hP hD hS (lv_sub hl [1, 2, 0] rfl) h17
        refine lv_aload_n hx hb dX4_end_52 rfl (lv_at hl 0 rfl) ?_
        refine lv_dup hx hb dX4_end_53 rfl ?_
        refine va_get (D := D) (v := .int v16.2.2.2.1) (C := RX4) (T := TX4) (N := 10) hx hb hts iw_X4 hown hK hP 0 rfl rfl 3 (by decide) (hts _ mw_424) (fun _ h9 => h9) rfl dX4_end_54 ?_
        refine lv_iconst (v := 1) hx hb dX4_end_57 (by decide) ?_
        refine lv_isub hx hb dX4_end_58 ?_
        refine va_put (D := D) (v := .int (v16.2.2.2.1 - (1 : Int32))) (ty := .int) (C := RX4) (T := TX4) (N := 10) hx hb hts iw_X4 tyX4 tyX4_ok nmX4 hown hK hP hD hS 0 rfl rfl 3 (by decide) (hts _ mw_424) (fun _ h9 => h9) rfl (by decide +kernel) rfl rfl (Nat.le_of_ble_eq_true rfl) dX4_end_59 (fun H locs hP hD hS => ?_)
        have hP : va_P D vwCl (wM cI cZ o b (M3 v16 (v16.2.2.2.1 - (1 : Int32)))) H := hP
        have hD : va_D (va_A (wM cI cZ o b t) s.heap.size) (wM cI cZ o b (M3 v16 (v16.2.2.2.1 - (1 : Int32)))) := hD
        cases h
        exact hj _ _ _ hP hD hS (lv_sub hl [0, 1] rfl)
  · have h := xf c1 h
    refine lv_iload_n hx hb dX4_end_4 rfl (lv_at hl 1 rfl) ?_
    refine lv_bipush (v := (-6)) hx hb dX4_end_5 (by decide) ?_
    refine lv_icmp_eq (tgt := 12) hx hb dX4_end_7 (by decide) (fun c18 => ?_) (fun c18 => ?_)
    · have h := xt c18 h
      refine lv_aload_n hx hb dX4_end_12 rfl (lv_at hl 0 rfl) ?_
      refine va_get (D := D) (v := .int t.2.2.2.1) (C := RX4) (T := TX4) (N := 10) hx hb hts iw_X4 hown hK hP 0 rfl rfl 3 (by decide) (hts _ mw_424) (fun _ h9 => h9) rfl dX4_end_13 ?_
      refine lv_bipush (v := 6) hx hb dX4_end_16 (by decide) ?_
      refine x_jM (V := MM) (nL := 3) (D := D) (A := (va_A (wM cI cZ o b t) s.heap.size)) (H0 := s.heap) (fun v19 => [(0, .ref o), (1, .int a1)]) 62 (fun v19 => []) (fun v19 => wM cI cZ o b v19) h (fun v19 h H locs ls hP hD hS hl => ?_) (fun v19 h hj => ?_)
      · refine lv_iconst (v := 0) hx hb dX4_end_62 (by decide) ?_
        refine lv_istore_n (lv' := [(2, .int (0 : Int32)), (0, .ref o), (1, .int a1)]) hx hb dX4_end_63 rfl hl (by decide) rfl (fun ls hl => ?_)
        obtain ⟨v20, h21, h⟩ := bE h
        refine k_X4_end_L64 (v := v20) o b a1 hA C0 hK (fun H locs ls hP hD hS hl => ?_) 2000 v19 (0 : Int32) _ _ _ hP hD hS (lv_sub hl [1, 2, 0] rfl) h21
        refine lv_aload_n hx hb dX4_end_98 rfl (lv_at hl 0 rfl) ?_
        refine lv_dup hx hb dX4_end_99 rfl ?_
        refine va_get (D := D) (v := .int v20.2.2.2.1) (C := RX4) (T := TX4) (N := 10) hx hb hts iw_X4 hown hK hP 0 rfl rfl 3 (by decide) (hts _ mw_424) (fun _ h9 => h9) rfl dX4_end_100 ?_
        refine lv_iconst (v := 1) hx hb dX4_end_103 (by decide) ?_
        refine lv_iadd hx hb dX4_end_104 ?_
        refine va_put (D := D) (v := .int (v20.2.2.2.1 + (1 : Int32))) (ty := .int) (C := RX4) (T := TX4) (N := 10) hx hb hts iw_X4 tyX4 tyX4_ok nmX4 hown hK hP hD hS 0 rfl rfl 3 (by decide) (hts _ mw_424) (fun _ h9 => h9) rfl (by decide +kernel) rfl rfl (Nat.le_of_ble_eq_true rfl) dX4_end_105 (fun H locs hP hD hS => ?_)
        have hP : va_P D vwCl (wM cI cZ o b (M3 v20 (v20.2.2.2.1 + (1 : Int32)))) H := hP
        have hD : va_D (va_A (wM cI cZ o b t) s.heap.size) (wM cI cZ o b (M3 v20 (v20.2.2.2.1 + (1 : Int32)))) := hD
        refine lv_iload_n hx hb dX4_end_108 rfl (lv_at hl 1 rfl) ?_
        cases h
        exact x_retM C0 rfl hP hD hS dX4_end_109
      · refine lv_icmp_ne (tgt := 62) hx hb dX4_end_18 (by decide) (fun c22 => ?_) (fun c22 => ?_)
        · have h := xf c22 h
          cases h
          exact hj _ _ _ hP hD hS (lv_sub hl [0, 1] rfl)
        · have h := xt c22 h
          refine lv_iconst (v := 0) hx hb dX4_end_21 (by decide) ?_
          refine lv_istore_n (lv' := [(2, .int (0 : Int32)), (0, .ref o), (1, .int a1)]) hx hb dX4_end_22 rfl hl (by decide) rfl (fun ls hl => ?_)
          obtain ⟨v23, h24, h⟩ := bE h
          refine k_X4_end_L23 (v := v23) o b a1 hA C0 hK (fun H locs ls hP hD hS hl => ?_) 2000 t (0 : Int32) _ _ _ hP hD hS (lv_sub hl [1, 2, 0] rfl) h24
          refine lv_aload_n hx hb dX4_end_52 rfl (lv_at hl 0 rfl) ?_
          refine lv_dup hx hb dX4_end_53 rfl ?_
          refine va_get (D := D) (v := .int v23.2.2.2.1) (C := RX4) (T := TX4) (N := 10) hx hb hts iw_X4 hown hK hP 0 rfl rfl 3 (by decide) (hts _ mw_424) (fun _ h9 => h9) rfl dX4_end_54 ?_
          refine lv_iconst (v := 1) hx hb dX4_end_57 (by decide) ?_
          refine lv_isub hx hb dX4_end_58 ?_
          refine va_put (D := D) (v := .int (v23.2.2.2.1 - (1 : Int32))) (ty := .int) (C := RX4) (T := TX4) (N := 10) hx hb hts iw_X4 tyX4 tyX4_ok nmX4 hown hK hP hD hS 0 rfl rfl 3 (by decide) (hts _ mw_424) (fun _ h9 => h9) rfl (by decide +kernel) rfl rfl (Nat.le_of_ble_eq_true rfl) dX4_end_59 (fun H locs hP hD hS => ?_)
          have hP : va_P D vwCl (wM cI cZ o b (M3 v23 (v23.2.2.2.1 - (1 : Int32)))) H := hP
          have hD : va_D (va_A (wM cI cZ o b t) s.heap.size) (wM cI cZ o b (M3 v23 (v23.2.2.2.1 - (1 : Int32)))) := hD
          cases h
          exact hj _ _ _ hP hD hS (lv_sub hl [0, 1] rfl)
    · have h := xf c18 h
      refine lv_iload_n hx hb dX4_end_10 rfl (lv_at hl 1 rfl) ?_
      cases h
      exact x_retM C0 rfl hP hD hS dX4_end_11

/-! QuarrelWaysModel.set (II)I -/
def f_X4_set (t : MM) (a1 : Int32) (a2 : Int32) : Option (Int32 × MM) := (((if a1 = 0 then some (1 : Int32) else (if a1 = (2 : Int32) then some (1 : Int32) else some (0 : Int32))) : Option (Int32)).bind fun v1 => (((if a1 = 0 then some (48 : Int32) else (if a1 = (1 : Int32) then some (99 : Int32) else (if a1 = (2 : Int32) then some (200 : Int32) else some (400 : Int32)))) : Option (Int32)).bind fun v2 => ((f_X4_in a1 (0 : Int32) (3 : Int32)).bind fun x3 => (if x3 = 0 then some ((-2 : Int32), t) else ((f_X4_in a2 v1 v2).bind fun x6 => (if x6 = 0 then some ((-2 : Int32), t) else ((f_X4_putAside t).bind fun x9 => ((rd x9.1 181 a1).bind fun x11 => ((wr x9.1 181 a1 a2).bind fun g13 => ((f_X4_end (M0 x9 g13) x11).bind fun x15 => some (x15.1, x15.2)))))))))))
abbrev rm_X4_set : Room := { frames := 1, cells := 0, slots := 0, locals := 22 }
theorem hd_X4_set : yX4_set.cls = RX4 ∧ yX4_set.cls ≠ "java/lang/invoke/MethodHandle" ∧ yX4_set.cls ≠ "java/lang/invoke/VarHandle" ∧ (parseMethodDescriptor yX4_set.desc).map (fun d => d.parameters.length) = some 2 := by decide +kernel
set_option maxHeartbeats 4000000 in
set_option maxRecDepth 100000 in
theorem c_X4_set (l : Launch) (D : va_G) (cI cZ cT : ClassId) (sz : Nat) (o : Nat) (b : Nat → Nat) (t : MM) (a1 : Int32) (a2 : Int32) (r : Int32 × MM) (h : f_X4_set t a1 a2 = some r) : Met l yX4_set (wq yX4_set cX4_set 6 (some .int)) rm_X4_set (q_M D (q_tys cI cZ cT) sz (wM cI cZ o b t) q_T [.ref o, .int a1, .int a2]) (va_Qi (fun r' _ => r' = r.1) (q_B D (wM cI cZ o b t) sz (wM cI cZ o b r.2)) (va_A (wM cI cZ o b t) sz)) 0 0 (va_A (wM cI cZ o b t) sz) := by
  refine q_MI (cc := cX4_set) (maxL := 6) (ret := (some .int)) (E := fun sz => q_T) (Qc := fun sz => (va_Qi (fun r' _ => r' = r.1) (q_B D (wM cI cZ o b t) sz (wM cI cZ o b r.2)) (va_A (wM cI cZ o b t) sz))) (free := fun sz => va_A (wM cI cZ o b t) sz) (plainFor_of_name (by decide)) (Nat.le_of_ble_eq_true rfl) (fun p e s m below meth c C0 hname hP hK hD hE ls hl => ?_)
  have hA : ∀ q, s.heap.size ≤ q → (va_A (wM cI cZ o b t) s.heap.size) q := fun _ => Or.inr
  have hS : va_S (va_A (wM cI cZ o b t) s.heap.size) s.heap s.heap [] := va_S.rf
  have hl : lv_has ls 6 [(0, .ref o), (1, .int a1), (2, .int a2)] := hl
  obtain ⟨hx, hb, hr, hml, hown, hts, hlocks⟩ := id C0
  have hF : CallFix p m c cX4_set 6 s _ BW RX4 := ⟨hx, hb, hml, hown, hts⟩
  rw [f_X4_set] at h
  refine lv_iload_n hx hb dX4_set_0 rfl (lv_at hl 1 rfl) ?_
  refine x_j (V := Int32) (nL := 6) (fun v1 => [(0, .ref o), (1, .int a1), (2, .int a2)]) 14 (fun v1 => [.int v1]) h (fun v1 h ls hl => ?_) (fun v1 h hj => ?_)
  · refine lv_istore_n (lv' := [(3, .int v1), (0, .ref o), (1, .int a1), (2, .int a2)]) hx hb dX4_set_14 rfl hl (by decide) rfl (fun ls hl => ?_)
    refine lv_iload_n hx hb dX4_set_15 rfl (lv_at hl 2 rfl) ?_
    refine x_j (V := Int32) (nL := 6) (fun v2 => [(0, .ref o), (1, .int a1), (2, .int a2), (3, .int v1)]) 48 (fun v2 => [.int v2]) h (fun v2 h ls hl => ?_) (fun v2 h hj => ?_)
    · refine lv_istore (lv' := [(4, .int v2), (0, .ref o), (1, .int a1), (2, .int a2), (3, .int v1)]) hx hb dX4_set_48 hl (by decide) rfl (fun ls hl => ?_)
      refine lv_iload_n hx hb dX4_set_50 rfl (lv_at hl 2 rfl) ?_
      refine lv_iconst (v := 0) hx hb dX4_set_51 (by decide) ?_
      refine lv_iconst (v := 3) hx hb dX4_set_52 (by decide) ?_
      obtain ⟨x3, h4, h⟩ := bE h
      refine x_RS (As := [.int a1, .int (0 : Int32), .int (3 : Int32)]) (rest := []) hF (c_X4_in l D cI cZ cT  a1 (0 : Int32) (3 : Int32) x3 h4) (va_cwS 3 hts (gqS mw_426 mw_427 mw_428 mw_421) rfl rfl rfl hd_X4_in.2 ⟨Nat.le_of_ble_eq_true rfl, Nat.le_of_ble_eq_true rfl⟩) hK hP q_T_bl (fun _ _ _ => trivial) [] rfl rfl hl.1 rfl (Nat.le_of_ble_eq_true rfl) dX4_set_53 ⟨Nat.zero_le _, Nat.zero_le _⟩ ?_
      refine lv_if_eq (tgt := 69) hx hb dX4_set_56 (by decide) (fun c5 => ?_) (fun c5 => ?_)
      · have h := xt c5 h
        refine lv_bipush (v := (-2)) hx hb dX4_set_69 (by decide) ?_
        cases h
        exact x_retM C0 rfl hP hD hS dX4_set_71
      · have h := xf c5 h
        refine lv_iload_n hx hb dX4_set_59 rfl (lv_at hl 3 rfl) ?_
        refine lv_iload_n hx hb dX4_set_60 rfl (lv_at hl 4 rfl) ?_
        refine lv_iload hx hb dX4_set_61 (lv_at hl 0 rfl) ?_
        obtain ⟨x6, h7, h⟩ := bE h
        refine x_RS (As := [.int a2, .int v1, .int v2]) (rest := []) hF (c_X4_in l D cI cZ cT  a2 v1 v2 x6 h7) (va_cwS 3 hts (gqS mw_426 mw_427 mw_428 mw_421) rfl rfl rfl hd_X4_in.2 ⟨Nat.le_of_ble_eq_true rfl, Nat.le_of_ble_eq_true rfl⟩) hK hP q_T_bl (fun _ _ _ => trivial) [] rfl rfl hl.1 rfl (Nat.le_of_ble_eq_true rfl) dX4_set_63 ⟨Nat.zero_le _, Nat.zero_le _⟩ ?_
        refine lv_if_ne (tgt := 72) hx hb dX4_set_66 (by decide) (fun c8 => ?_) (fun c8 => ?_)
        · have h := xf c8 h
          refine lv_aload_n hx hb dX4_set_72 rfl (lv_at hl 1 rfl) ?_
          obtain ⟨x9, h10, h⟩ := bE h
          refine x_VV (As := []) (rest := []) (wr := []) (W1 := wM cI cZ o b x9) hF (c_X4_putAside l D cI cZ cT _ o b t  x9 h10) (cwV 0 hts (gqV mw_516 mw_517 mw_518 mw_428 mw_422) rfl rfl rfl hd_X4_putAside ⟨Nat.le_of_ble_eq_true rfl, Nat.le_of_ble_eq_true rfl⟩) hK hP hD hS hA q_T_bl (fun _ _ _ => trivial) [0, 1, 2, 3, 4, 5, 6] [] [0, 1, 2, 3, 4, 5, 6] rfl rfl ⟨rfl, rfl, rfl, rfl⟩ rfl rfl rfl rfl hl.1 rfl (Nat.le_of_ble_eq_true rfl) dX4_set_73 ⟨Nat.zero_le _, Nat.zero_le _⟩ (fun H locs hP hD hS => ?_)
          refine lv_aload_n hx hb dX4_set_76 rfl (lv_at hl 1 rfl) ?_
          refine va_get (D := D) (v := .ref (b 0)) (C := RX4) (T := TX4) (N := 10) hx hb hts iw_X4 hown hK hP 0 rfl rfl 0 (by decide) (hts _ mw_414) (fun _ h9 => h9) rfl dX4_set_77 ?_
          refine lv_iload_n hx hb dX4_set_80 rfl (lv_at hl 2 rfl) ?_
          obtain ⟨x11, h12, h⟩ := bE h
          refine x_iald (cA := cI) hx hb hK hP 1 0 rfl rfl h12 dX4_set_81 ?_
          refine lv_istore (lv' := [(5, .int x11), (4, .int v2), (0, .ref o), (1, .int a1), (2, .int a2), (3, .int v1)]) hx hb dX4_set_82 hl (by decide) rfl (fun ls hl => ?_)
          refine lv_aload_n hx hb dX4_set_84 rfl (lv_at hl 2 rfl) ?_
          refine va_get (D := D) (v := .ref (b 0)) (C := RX4) (T := TX4) (N := 10) hx hb hts iw_X4 hown hK hP 0 rfl rfl 0 (by decide) (hts _ mw_414) (fun _ h9 => h9) rfl dX4_set_85 ?_
          refine lv_iload_n hx hb dX4_set_88 rfl (lv_at hl 3 rfl) ?_
          refine lv_iload_n hx hb dX4_set_89 rfl (lv_at hl 4 rfl) ?_
          obtain ⟨g13, h14, h⟩ := bE h
          refine x_iast (cA := cI) hx hb hK hP hD hS 1 0 rfl rfl h14 dX4_set_90 (fun H locs hP hD hS => ?_)
          have hP : va_P D vwCl (wM cI cZ o b (M0 x9 g13)) H := hP
          have hD : va_D (va_A (wM cI cZ o b t) s.heap.size) (wM cI cZ o b (M0 x9 g13)) := hD
          refine lv_aload_n hx hb dX4_set_91 rfl (lv_at hl 2 rfl) ?_
          refine lv_iload hx hb dX4_set_92 (lv_at hl 0 rfl) ?_
          obtain ⟨x15, h16, h⟩ := bE h
          refine x_MV (As := [.int x11]) (rest := []) (wr := []) (W1 := wM cI cZ o b x15.2) hF (c_X4_end l D cI cZ cT _ o b (M0 x9 g13) x11 x15 h16) (cwV 1 hts (gqV mw_519 mw_520 mw_521 mw_428 mw_423) rfl rfl rfl hd_X4_end ⟨Nat.le_of_ble_eq_true rfl, Nat.le_of_ble_eq_true rfl⟩) hK hP hD hS hA q_T_bl (fun _ _ _ => trivial) [0, 1, 2, 3, 4, 5, 6] [] [0, 1, 2, 3, 4, 5, 6] rfl rfl ⟨rfl, rfl, rfl, rfl⟩ rfl rfl rfl rfl hl.1 rfl (Nat.le_of_ble_eq_true rfl) dX4_set_94 ⟨Nat.zero_le _, Nat.zero_le _⟩ (fun H locs hP hD hS => ?_)
          cases h
          exact x_retM C0 rfl hP hD hS dX4_set_97
        · have h := xt c8 h
          refine lv_bipush (v := (-2)) hx hb dX4_set_69 (by decide) ?_
          cases h
          exact x_retM C0 rfl hP hD hS dX4_set_71
    · refine lv_if_ne (tgt := 24) hx hb dX4_set_16 (by decide) (fun c17 => ?_) (fun c17 => ?_)
      · have h := xf c17 h
        refine lv_iload_n hx hb dX4_set_24 rfl (lv_at hl 2 rfl) ?_
        refine lv_iconst (v := 1) hx hb dX4_set_25 (by decide) ?_
        refine lv_icmp_ne (tgt := 34) hx hb dX4_set_26 (by decide) (fun c18 => ?_) (fun c18 => ?_)
        · have h := xf c18 h
          refine lv_iload_n hx hb dX4_set_34 rfl (lv_at hl 2 rfl) ?_
          refine lv_iconst (v := 2) hx hb dX4_set_35 (by decide) ?_
          refine lv_icmp_ne (tgt := 45) hx hb dX4_set_36 (by decide) (fun c19 => ?_) (fun c19 => ?_)
          · have h := xf c19 h
            refine lv_sipush (v := 400) hx hb dX4_set_45 (by decide) ?_
            cases h
            exact hj _ (lv_sub hl [1, 2, 3, 0] rfl)
          · have h := xt c19 h
            refine lv_sipush (v := 200) hx hb dX4_set_39 (by decide) ?_
            refine lv_goto (tgt := 48) hx hb dX4_set_42 (by decide) ?_
            cases h
            exact hj _ (lv_sub hl [1, 2, 3, 0] rfl)
        · have h := xt c18 h
          refine lv_bipush (v := 99) hx hb dX4_set_29 (by decide) ?_
          refine lv_goto (tgt := 48) hx hb dX4_set_31 (by decide) ?_
          cases h
          exact hj _ (lv_sub hl [1, 2, 3, 0] rfl)
      · have h := xt c17 h
        refine lv_bipush (v := 48) hx hb dX4_set_19 (by decide) ?_
        refine lv_goto (tgt := 48) hx hb dX4_set_21 (by decide) ?_
        cases h
        exact hj _ (lv_sub hl [1, 2, 3, 0] rfl)
  · refine lv_if_eq (tgt := 9) hx hb dX4_set_1 (by decide) (fun c20 => ?_) (fun c20 => ?_)
    · have h := xt c20 h
      refine lv_iconst (v := 1) hx hb dX4_set_9 (by decide) ?_
      refine lv_goto (tgt := 14) hx hb dX4_set_10 (by decide) ?_
      cases h
      exact hj _ (lv_sub hl [0, 1, 2] rfl)
    · have h := xf c20 h
      refine lv_iload_n hx hb dX4_set_4 rfl (lv_at hl 1 rfl) ?_
      refine lv_iconst (v := 2) hx hb dX4_set_5 (by decide) ?_
      refine lv_icmp_ne (tgt := 13) hx hb dX4_set_6 (by decide) (fun c21 => ?_) (fun c21 => ?_)
      · have h := xf c21 h
        refine lv_iconst (v := 0) hx hb dX4_set_13 (by decide) ?_
        cases h
        exact hj _ (lv_sub hl [0, 1, 2] rfl)
      · have h := xt c21 h
        refine lv_iconst (v := 1) hx hb dX4_set_9 (by decide) ?_
        refine lv_goto (tgt := 14) hx hb dX4_set_10 (by decide) ?_
        cases h
        exact hj _ (lv_sub hl [0, 1, 2] rfl)

/-! QuarrelWaysModel.person (II)I -/
def f_X4_person (t : MM) (a1 : Int32) (a2 : Int32) : Option (Int32 × MM) := ((f_X4_putAside t).bind fun x1 => ((f_X4_comes x1.1 a1 a2).bind fun x3 => ((f_X4_end (M0 x1 x3.2) x3.1).bind fun x5 => some (x5.1, x5.2))))
abbrev rm_X4_person : Room := { frames := 2, cells := 0, slots := 0, locals := 45 }
theorem hd_X4_person : yX4_person.cls = RX4 ∧ yX4_person.cls ≠ "java/lang/invoke/MethodHandle" ∧ yX4_person.cls ≠ "java/lang/invoke/VarHandle" ∧ (parseMethodDescriptor yX4_person.desc).map (fun d => d.parameters.length) = some 2 := by decide +kernel
set_option maxHeartbeats 4000000 in
set_option maxRecDepth 100000 in
theorem c_X4_person (l : Launch) (D : va_G) (cI cZ cT : ClassId) (sz : Nat) (o : Nat) (b : Nat → Nat) (t : MM) (a1 : Int32) (a2 : Int32) (r : Int32 × MM) (h : f_X4_person t a1 a2 = some r) : Met l yX4_person (wq yX4_person cX4_person 3 (some .int)) rm_X4_person (q_M D (q_tys cI cZ cT) sz (wM cI cZ o b t) q_T [.ref o, .int a1, .int a2]) (va_Qi (fun r' _ => r' = r.1) (q_B D (wM cI cZ o b t) sz (wM cI cZ o b r.2)) (va_A (wM cI cZ o b t) sz)) 0 0 (va_A (wM cI cZ o b t) sz) := by
  refine q_MI (cc := cX4_person) (maxL := 3) (ret := (some .int)) (E := fun sz => q_T) (Qc := fun sz => (va_Qi (fun r' _ => r' = r.1) (q_B D (wM cI cZ o b t) sz (wM cI cZ o b r.2)) (va_A (wM cI cZ o b t) sz))) (free := fun sz => va_A (wM cI cZ o b t) sz) (plainFor_of_name (by decide)) (Nat.le_of_ble_eq_true rfl) (fun p e s m below meth c C0 hname hP hK hD hE ls hl => ?_)
  have hA : ∀ q, s.heap.size ≤ q → (va_A (wM cI cZ o b t) s.heap.size) q := fun _ => Or.inr
  have hS : va_S (va_A (wM cI cZ o b t) s.heap.size) s.heap s.heap [] := va_S.rf
  have hl : lv_has ls 3 [(0, .ref o), (1, .int a1), (2, .int a2)] := hl
  obtain ⟨hx, hb, hr, hml, hown, hts, hlocks⟩ := id C0
  have hF : CallFix p m c cX4_person 3 s _ BW RX4 := ⟨hx, hb, hml, hown, hts⟩
  rw [f_X4_person] at h
  refine lv_aload_n hx hb dX4_person_0 rfl (lv_at hl 0 rfl) ?_
  obtain ⟨x1, h2, h⟩ := bE h
  refine x_VV (As := []) (rest := []) (wr := []) (W1 := wM cI cZ o b x1) hF (c_X4_putAside l D cI cZ cT _ o b t  x1 h2) (cwV 0 hts (gqV mw_516 mw_517 mw_518 mw_428 mw_422) rfl rfl rfl hd_X4_putAside ⟨Nat.le_of_ble_eq_true rfl, Nat.le_of_ble_eq_true rfl⟩) hK hP hD hS hA q_T_bl (fun _ _ _ => trivial) [0, 1, 2, 3, 4, 5, 6] [] [0, 1, 2, 3, 4, 5, 6] rfl rfl ⟨rfl, rfl, rfl, rfl⟩ rfl rfl rfl rfl hl.1 rfl (Nat.le_of_ble_eq_true rfl) dX4_person_1 ⟨Nat.zero_le _, Nat.zero_le _⟩ (fun H locs hP hD hS => ?_)
  refine lv_aload_n hx hb dX4_person_4 rfl (lv_at hl 0 rfl) ?_
  refine lv_aload_n hx hb dX4_person_5 rfl (lv_at hl 0 rfl) ?_
  refine lv_iload_n hx hb dX4_person_6 rfl (lv_at hl 1 rfl) ?_
  refine lv_iload_n hx hb dX4_person_7 rfl (lv_at hl 2 rfl) ?_
  obtain ⟨x3, h4, h⟩ := bE h
  refine x_MV (As := [.int a1, .int a2]) (rest := [.ref o]) (wr := (([2, 3, 4, 5, 6] : List Nat).filterMap (fun i => (wM cI cZ o b x1)[i]?))) (W1 := wM cI cZ o b (M0 x1 x3.2)) hF (c_X4_comes l D cI cZ cT _ o (wMf b x1) (b 0) rfl x1.1 a1 a2 x3 h4) (cwV 2 hts (gqV mw_523 mw_524 mw_525 mw_428 mw_481) rfl rfl rfl hd_X4_comes ⟨Nat.le_of_ble_eq_true rfl, Nat.le_of_ble_eq_true rfl⟩) hK hP hD hS hA q_T_bl (fun _ _ _ => trivial) [0, 1] [2, 3, 4, 5, 6] [5, 6, 0, 1, 2, 3, 4] rfl rfl ⟨rfl, rfl, rfl, rfl⟩ rfl rfl rfl rfl hl.1 rfl (Nat.le_of_ble_eq_true rfl) dX4_person_8 ⟨Nat.zero_le _, Nat.zero_le _⟩ (fun H locs hP hD hS => ?_)
  obtain ⟨x5, h6, h⟩ := bE h
  refine x_MV (As := [.int x3.1]) (rest := []) (wr := []) (W1 := wM cI cZ o b x5.2) hF (c_X4_end l D cI cZ cT _ o b (M0 x1 x3.2) x3.1 x5 h6) (cwV 1 hts (gqV mw_519 mw_520 mw_521 mw_428 mw_423) rfl rfl rfl hd_X4_end ⟨Nat.le_of_ble_eq_true rfl, Nat.le_of_ble_eq_true rfl⟩) hK hP hD hS hA q_T_bl (fun _ _ _ => trivial) [0, 1, 2, 3, 4, 5, 6] [] [0, 1, 2, 3, 4, 5, 6] rfl rfl ⟨rfl, rfl, rfl, rfl⟩ rfl rfl rfl rfl hl.1 rfl (Nat.le_of_ble_eq_true rfl) dX4_person_11 ⟨Nat.zero_le _, Nat.zero_le _⟩ (fun H locs hP hD hS => ?_)
  cases h
  exact x_retM C0 rfl hP hD hS dX4_person_14

/-! QuarrelWaysModel.second (II)I -/
def f_X4_second (t : MM) (a1 : Int32) (a2 : Int32) : Option (Int32 × MM) := ((f_X4_putAside t).bind fun x1 => ((f_X4_takes x1.1 a1 a2).bind fun x3 => ((f_X4_end (M0 x1 x3.2) x3.1).bind fun x5 => some (x5.1, x5.2))))
abbrev rm_X4_second : Room := { frames := 3, cells := 0, slots := 0, locals := 66 }
theorem hd_X4_second : yX4_second.cls = RX4 ∧ yX4_second.cls ≠ "java/lang/invoke/MethodHandle" ∧ yX4_second.cls ≠ "java/lang/invoke/VarHandle" ∧ (parseMethodDescriptor yX4_second.desc).map (fun d => d.parameters.length) = some 2 := by decide +kernel
set_option maxHeartbeats 4000000 in
set_option maxRecDepth 100000 in
theorem c_X4_second (l : Launch) (D : va_G) (cI cZ cT : ClassId) (sz : Nat) (o : Nat) (b : Nat → Nat) (t : MM) (a1 : Int32) (a2 : Int32) (r : Int32 × MM) (h : f_X4_second t a1 a2 = some r) : Met l yX4_second (wq yX4_second cX4_second 3 (some .int)) rm_X4_second (q_M D (q_tys cI cZ cT) sz (wM cI cZ o b t) q_T [.ref o, .int a1, .int a2]) (va_Qi (fun r' _ => r' = r.1) (q_B D (wM cI cZ o b t) sz (wM cI cZ o b r.2)) (va_A (wM cI cZ o b t) sz)) 0 0 (va_A (wM cI cZ o b t) sz) := by
  refine q_MI (cc := cX4_second) (maxL := 3) (ret := (some .int)) (E := fun sz => q_T) (Qc := fun sz => (va_Qi (fun r' _ => r' = r.1) (q_B D (wM cI cZ o b t) sz (wM cI cZ o b r.2)) (va_A (wM cI cZ o b t) sz))) (free := fun sz => va_A (wM cI cZ o b t) sz) (plainFor_of_name (by decide)) (Nat.le_of_ble_eq_true rfl) (fun p e s m below meth c C0 hname hP hK hD hE ls hl => ?_)
  have hA : ∀ q, s.heap.size ≤ q → (va_A (wM cI cZ o b t) s.heap.size) q := fun _ => Or.inr
  have hS : va_S (va_A (wM cI cZ o b t) s.heap.size) s.heap s.heap [] := va_S.rf
  have hl : lv_has ls 3 [(0, .ref o), (1, .int a1), (2, .int a2)] := hl
  obtain ⟨hx, hb, hr, hml, hown, hts, hlocks⟩ := id C0
  have hF : CallFix p m c cX4_second 3 s _ BW RX4 := ⟨hx, hb, hml, hown, hts⟩
  rw [f_X4_second] at h
  refine lv_aload_n hx hb dX4_second_0 rfl (lv_at hl 0 rfl) ?_
  obtain ⟨x1, h2, h⟩ := bE h
  refine x_VV (As := []) (rest := []) (wr := []) (W1 := wM cI cZ o b x1) hF (c_X4_putAside l D cI cZ cT _ o b t  x1 h2) (cwV 0 hts (gqV mw_516 mw_517 mw_518 mw_428 mw_422) rfl rfl rfl hd_X4_putAside ⟨Nat.le_of_ble_eq_true rfl, Nat.le_of_ble_eq_true rfl⟩) hK hP hD hS hA q_T_bl (fun _ _ _ => trivial) [0, 1, 2, 3, 4, 5, 6] [] [0, 1, 2, 3, 4, 5, 6] rfl rfl ⟨rfl, rfl, rfl, rfl⟩ rfl rfl rfl rfl hl.1 rfl (Nat.le_of_ble_eq_true rfl) dX4_second_1 ⟨Nat.zero_le _, Nat.zero_le _⟩ (fun H locs hP hD hS => ?_)
  refine lv_aload_n hx hb dX4_second_4 rfl (lv_at hl 0 rfl) ?_
  refine lv_aload_n hx hb dX4_second_5 rfl (lv_at hl 0 rfl) ?_
  refine lv_iload_n hx hb dX4_second_6 rfl (lv_at hl 1 rfl) ?_
  refine lv_iload_n hx hb dX4_second_7 rfl (lv_at hl 2 rfl) ?_
  obtain ⟨x3, h4, h⟩ := bE h
  refine x_MV (As := [.int a1, .int a2]) (rest := [.ref o]) (wr := (([2, 3, 4, 5, 6] : List Nat).filterMap (fun i => (wM cI cZ o b x1)[i]?))) (W1 := wM cI cZ o b (M0 x1 x3.2)) hF (c_X4_takes l D cI cZ cT _ o (wMf b x1) (b 0) rfl x1.1 a1 a2 x3 h4) (cwV 2 hts (gqV mw_526 mw_527 mw_528 mw_428 mw_482) rfl rfl rfl hd_X4_takes ⟨Nat.le_of_ble_eq_true rfl, Nat.le_of_ble_eq_true rfl⟩) hK hP hD hS hA q_T_bl (fun _ _ _ => trivial) [0, 1] [2, 3, 4, 5, 6] [5, 6, 0, 1, 2, 3, 4] rfl rfl ⟨rfl, rfl, rfl, rfl⟩ rfl rfl rfl rfl hl.1 rfl (Nat.le_of_ble_eq_true rfl) dX4_second_8 ⟨Nat.zero_le _, Nat.zero_le _⟩ (fun H locs hP hD hS => ?_)
  obtain ⟨x5, h6, h⟩ := bE h
  refine x_MV (As := [.int x3.1]) (rest := []) (wr := []) (W1 := wM cI cZ o b x5.2) hF (c_X4_end l D cI cZ cT _ o b (M0 x1 x3.2) x3.1 x5 h6) (cwV 1 hts (gqV mw_519 mw_520 mw_521 mw_428 mw_423) rfl rfl rfl hd_X4_end ⟨Nat.le_of_ble_eq_true rfl, Nat.le_of_ble_eq_true rfl⟩) hK hP hD hS hA q_T_bl (fun _ _ _ => trivial) [0, 1, 2, 3, 4, 5, 6] [] [0, 1, 2, 3, 4, 5, 6] rfl rfl ⟨rfl, rfl, rfl, rfl⟩ rfl rfl rfl rfl hl.1 rfl (Nat.le_of_ble_eq_true rfl) dX4_second_11 ⟨Nat.zero_le _, Nat.zero_le _⟩ (fun H locs hP hD hS => ?_)
  cases h
  exact x_retM C0 rfl hP hD hS dX4_second_14

/-! QuarrelWaysModel.allow (I)I -/
def f_X4_allow (t : MM) (a1 : Int32) : Option (Int32 × MM) := ((f_X4_putAside t).bind fun x1 => ((f_X4_turns x1.1 a1).bind fun x3 => ((f_X4_end (M0 x1 x3.2) x3.1).bind fun x5 => some (x5.1, x5.2))))
abbrev rm_X4_allow : Room := { frames := 2, cells := 0, slots := 0, locals := 43 }
theorem hd_X4_allow : yX4_allow.cls = RX4 ∧ yX4_allow.cls ≠ "java/lang/invoke/MethodHandle" ∧ yX4_allow.cls ≠ "java/lang/invoke/VarHandle" ∧ (parseMethodDescriptor yX4_allow.desc).map (fun d => d.parameters.length) = some 1 := by decide +kernel
set_option maxHeartbeats 4000000 in
set_option maxRecDepth 100000 in
theorem c_X4_allow (l : Launch) (D : va_G) (cI cZ cT : ClassId) (sz : Nat) (o : Nat) (b : Nat → Nat) (t : MM) (a1 : Int32) (r : Int32 × MM) (h : f_X4_allow t a1 = some r) : Met l yX4_allow (wq yX4_allow cX4_allow 2 (some .int)) rm_X4_allow (q_M D (q_tys cI cZ cT) sz (wM cI cZ o b t) q_T [.ref o, .int a1]) (va_Qi (fun r' _ => r' = r.1) (q_B D (wM cI cZ o b t) sz (wM cI cZ o b r.2)) (va_A (wM cI cZ o b t) sz)) 0 0 (va_A (wM cI cZ o b t) sz) := by
  refine q_MI (cc := cX4_allow) (maxL := 2) (ret := (some .int)) (E := fun sz => q_T) (Qc := fun sz => (va_Qi (fun r' _ => r' = r.1) (q_B D (wM cI cZ o b t) sz (wM cI cZ o b r.2)) (va_A (wM cI cZ o b t) sz))) (free := fun sz => va_A (wM cI cZ o b t) sz) (plainFor_of_name (by decide)) (Nat.le_of_ble_eq_true rfl) (fun p e s m below meth c C0 hname hP hK hD hE ls hl => ?_)
  have hA : ∀ q, s.heap.size ≤ q → (va_A (wM cI cZ o b t) s.heap.size) q := fun _ => Or.inr
  have hS : va_S (va_A (wM cI cZ o b t) s.heap.size) s.heap s.heap [] := va_S.rf
  have hl : lv_has ls 2 [(0, .ref o), (1, .int a1)] := hl
  obtain ⟨hx, hb, hr, hml, hown, hts, hlocks⟩ := id C0
  have hF : CallFix p m c cX4_allow 2 s _ BW RX4 := ⟨hx, hb, hml, hown, hts⟩
  rw [f_X4_allow] at h
  refine lv_aload_n hx hb dX4_allow_0 rfl (lv_at hl 0 rfl) ?_
  obtain ⟨x1, h2, h⟩ := bE h
  refine x_VV (As := []) (rest := []) (wr := []) (W1 := wM cI cZ o b x1) hF (c_X4_putAside l D cI cZ cT _ o b t  x1 h2) (cwV 0 hts (gqV mw_516 mw_517 mw_518 mw_428 mw_422) rfl rfl rfl hd_X4_putAside ⟨Nat.le_of_ble_eq_true rfl, Nat.le_of_ble_eq_true rfl⟩) hK hP hD hS hA q_T_bl (fun _ _ _ => trivial) [0, 1, 2, 3, 4, 5, 6] [] [0, 1, 2, 3, 4, 5, 6] rfl rfl ⟨rfl, rfl, rfl, rfl⟩ rfl rfl rfl rfl hl.1 rfl (Nat.le_of_ble_eq_true rfl) dX4_allow_1 ⟨Nat.zero_le _, Nat.zero_le _⟩ (fun H locs hP hD hS => ?_)
  refine lv_aload_n hx hb dX4_allow_4 rfl (lv_at hl 0 rfl) ?_
  refine lv_aload_n hx hb dX4_allow_5 rfl (lv_at hl 0 rfl) ?_
  refine lv_iload_n hx hb dX4_allow_6 rfl (lv_at hl 1 rfl) ?_
  obtain ⟨x3, h4, h⟩ := bE h
  refine x_MV (As := [.int a1]) (rest := [.ref o]) (wr := (([2, 3, 4, 5, 6] : List Nat).filterMap (fun i => (wM cI cZ o b x1)[i]?))) (W1 := wM cI cZ o b (M0 x1 x3.2)) hF (c_X4_turns l D cI cZ cT _ o (wMf b x1) (b 0) rfl x1.1 a1 x3 h4) (cwV 1 hts (gqV mw_531 mw_532 mw_533 mw_428 mw_486) rfl rfl rfl hd_X4_turns ⟨Nat.le_of_ble_eq_true rfl, Nat.le_of_ble_eq_true rfl⟩) hK hP hD hS hA q_T_bl (fun _ _ _ => trivial) [0, 1] [2, 3, 4, 5, 6] [5, 6, 0, 1, 2, 3, 4] rfl rfl ⟨rfl, rfl, rfl, rfl⟩ rfl rfl rfl rfl hl.1 rfl (Nat.le_of_ble_eq_true rfl) dX4_allow_7 ⟨Nat.zero_le _, Nat.zero_le _⟩ (fun H locs hP hD hS => ?_)
  obtain ⟨x5, h6, h⟩ := bE h
  refine x_MV (As := [.int x3.1]) (rest := []) (wr := []) (W1 := wM cI cZ o b x5.2) hF (c_X4_end l D cI cZ cT _ o b (M0 x1 x3.2) x3.1 x5 h6) (cwV 1 hts (gqV mw_519 mw_520 mw_521 mw_428 mw_423) rfl rfl rfl hd_X4_end ⟨Nat.le_of_ble_eq_true rfl, Nat.le_of_ble_eq_true rfl⟩) hK hP hD hS hA q_T_bl (fun _ _ _ => trivial) [0, 1, 2, 3, 4, 5, 6] [] [0, 1, 2, 3, 4, 5, 6] rfl rfl ⟨rfl, rfl, rfl, rfl⟩ rfl rfl rfl rfl hl.1 rfl (Nat.le_of_ble_eq_true rfl) dX4_allow_10 ⟨Nat.zero_le _, Nat.zero_le _⟩ (fun H locs hP hD hS => ?_)
  cases h
  exact x_retM C0 rfl hP hD hS dX4_allow_13

/-! QuarrelWaysModel.insult (III)I -/
def f_X4_insult (t : MM) (a1 : Int32) (a2 : Int32) (a3 : Int32) : Option (Int32 × MM) := ((f_X4_putAside t).bind fun x1 => ((f_X4_offends x1.1 a1 a2 a3).bind fun x3 => ((f_X4_end (M0 x1 x3.2) x3.1).bind fun x5 => some (x5.1, x5.2))))
abbrev rm_X4_insult : Room := { frames := 3, cells := 0, slots := 0, locals := 71 }
theorem hd_X4_insult : yX4_insult.cls = RX4 ∧ yX4_insult.cls ≠ "java/lang/invoke/MethodHandle" ∧ yX4_insult.cls ≠ "java/lang/invoke/VarHandle" ∧ (parseMethodDescriptor yX4_insult.desc).map (fun d => d.parameters.length) = some 3 := by decide +kernel
set_option maxHeartbeats 4000000 in
set_option maxRecDepth 100000 in
theorem c_X4_insult (l : Launch) (D : va_G) (cI cZ cT : ClassId) (sz : Nat) (o : Nat) (b : Nat → Nat) (t : MM) (a1 : Int32) (a2 : Int32) (a3 : Int32) (r : Int32 × MM) (h : f_X4_insult t a1 a2 a3 = some r) : Met l yX4_insult (wq yX4_insult cX4_insult 4 (some .int)) rm_X4_insult (q_M D (q_tys cI cZ cT) sz (wM cI cZ o b t) q_T [.ref o, .int a1, .int a2, .int a3]) (va_Qi (fun r' _ => r' = r.1) (q_B D (wM cI cZ o b t) sz (wM cI cZ o b r.2)) (va_A (wM cI cZ o b t) sz)) 0 0 (va_A (wM cI cZ o b t) sz) := by
  refine q_MI (cc := cX4_insult) (maxL := 4) (ret := (some .int)) (E := fun sz => q_T) (Qc := fun sz => (va_Qi (fun r' _ => r' = r.1) (q_B D (wM cI cZ o b t) sz (wM cI cZ o b r.2)) (va_A (wM cI cZ o b t) sz))) (free := fun sz => va_A (wM cI cZ o b t) sz) (plainFor_of_name (by decide)) (Nat.le_of_ble_eq_true rfl) (fun p e s m below meth c C0 hname hP hK hD hE ls hl => ?_)
  have hA : ∀ q, s.heap.size ≤ q → (va_A (wM cI cZ o b t) s.heap.size) q := fun _ => Or.inr
  have hS : va_S (va_A (wM cI cZ o b t) s.heap.size) s.heap s.heap [] := va_S.rf
  have hl : lv_has ls 4 [(0, .ref o), (1, .int a1), (2, .int a2), (3, .int a3)] := hl
  obtain ⟨hx, hb, hr, hml, hown, hts, hlocks⟩ := id C0
  have hF : CallFix p m c cX4_insult 4 s _ BW RX4 := ⟨hx, hb, hml, hown, hts⟩
  rw [f_X4_insult] at h
  refine lv_aload_n hx hb dX4_insult_0 rfl (lv_at hl 0 rfl) ?_
  obtain ⟨x1, h2, h⟩ := bE h
  refine x_VV (As := []) (rest := []) (wr := []) (W1 := wM cI cZ o b x1) hF (c_X4_putAside l D cI cZ cT _ o b t  x1 h2) (cwV 0 hts (gqV mw_516 mw_517 mw_518 mw_428 mw_422) rfl rfl rfl hd_X4_putAside ⟨Nat.le_of_ble_eq_true rfl, Nat.le_of_ble_eq_true rfl⟩) hK hP hD hS hA q_T_bl (fun _ _ _ => trivial) [0, 1, 2, 3, 4, 5, 6] [] [0, 1, 2, 3, 4, 5, 6] rfl rfl ⟨rfl, rfl, rfl, rfl⟩ rfl rfl rfl rfl hl.1 rfl (Nat.le_of_ble_eq_true rfl) dX4_insult_1 ⟨Nat.zero_le _, Nat.zero_le _⟩ (fun H locs hP hD hS => ?_)
  refine lv_aload_n hx hb dX4_insult_4 rfl (lv_at hl 0 rfl) ?_
  refine lv_aload_n hx hb dX4_insult_5 rfl (lv_at hl 0 rfl) ?_
  refine lv_iload_n hx hb dX4_insult_6 rfl (lv_at hl 1 rfl) ?_
  refine lv_iload_n hx hb dX4_insult_7 rfl (lv_at hl 2 rfl) ?_
  refine lv_iload_n hx hb dX4_insult_8 rfl (lv_at hl 3 rfl) ?_
  obtain ⟨x3, h4, h⟩ := bE h
  refine x_MV (As := [.int a1, .int a2, .int a3]) (rest := [.ref o]) (wr := (([2, 3, 4, 5, 6] : List Nat).filterMap (fun i => (wM cI cZ o b x1)[i]?))) (W1 := wM cI cZ o b (M0 x1 x3.2)) hF (c_X4_offends l D cI cZ cT _ o (wMf b x1) (b 0) rfl x1.1 a1 a2 a3 x3 h4) (cwV 3 hts (gqV mw_534 mw_535 mw_536 mw_428 mw_487) rfl rfl rfl hd_X4_offends ⟨Nat.le_of_ble_eq_true rfl, Nat.le_of_ble_eq_true rfl⟩) hK hP hD hS hA q_T_bl (fun _ _ _ => trivial) [0, 1] [2, 3, 4, 5, 6] [5, 6, 0, 1, 2, 3, 4] rfl rfl ⟨rfl, rfl, rfl, rfl⟩ rfl rfl rfl rfl hl.1 rfl (Nat.le_of_ble_eq_true rfl) dX4_insult_9 ⟨Nat.zero_le _, Nat.zero_le _⟩ (fun H locs hP hD hS => ?_)
  obtain ⟨x5, h6, h⟩ := bE h
  refine x_MV (As := [.int x3.1]) (rest := []) (wr := []) (W1 := wM cI cZ o b x5.2) hF (c_X4_end l D cI cZ cT _ o b (M0 x1 x3.2) x3.1 x5 h6) (cwV 1 hts (gqV mw_519 mw_520 mw_521 mw_428 mw_423) rfl rfl rfl hd_X4_end ⟨Nat.le_of_ble_eq_true rfl, Nat.le_of_ble_eq_true rfl⟩) hK hP hD hS hA q_T_bl (fun _ _ _ => trivial) [0, 1, 2, 3, 4, 5, 6] [] [0, 1, 2, 3, 4, 5, 6] rfl rfl ⟨rfl, rfl, rfl, rfl⟩ rfl rfl rfl rfl hl.1 rfl (Nat.le_of_ble_eq_true rfl) dX4_insult_12 ⟨Nat.zero_le _, Nat.zero_le _⟩ (fun H locs hP hD hS => ?_)
  cases h
  exact x_retM C0 rfl hP hD hS dX4_insult_15

/-! QuarrelWaysModel.settle (II)I -/
def f_X4_settle (t : MM) (a1 : Int32) (a2 : Int32) : Option (Int32 × MM) := ((f_X4_putAside t).bind fun x1 => ((f_X4_settles x1.1 a1 a2).bind fun x3 => ((f_X4_end (M0 x1 x3.2) x3.1).bind fun x5 => some (x5.1, x5.2))))
abbrev rm_X4_settle : Room := { frames := 6, cells := 0, slots := 0, locals := 146 }
theorem hd_X4_settle : yX4_settle.cls = RX4 ∧ yX4_settle.cls ≠ "java/lang/invoke/MethodHandle" ∧ yX4_settle.cls ≠ "java/lang/invoke/VarHandle" ∧ (parseMethodDescriptor yX4_settle.desc).map (fun d => d.parameters.length) = some 2 := by decide +kernel
set_option maxHeartbeats 4000000 in
set_option maxRecDepth 100000 in
theorem c_X4_settle (l : Launch) (D : va_G) (cI cZ cT : ClassId) (sz : Nat) (o : Nat) (b : Nat → Nat) (t : MM) (a1 : Int32) (a2 : Int32) (r : Int32 × MM) (h : f_X4_settle t a1 a2 = some r) : Met l yX4_settle (wq yX4_settle cX4_settle 3 (some .int)) rm_X4_settle (q_M D (q_tys cI cZ cT) sz (wM cI cZ o b t) q_T [.ref o, .int a1, .int a2]) (va_Qi (fun r' _ => r' = r.1) (q_B D (wM cI cZ o b t) sz (wM cI cZ o b r.2)) (va_A (wM cI cZ o b t) sz)) 0 0 (va_A (wM cI cZ o b t) sz) := by
  refine q_MI (cc := cX4_settle) (maxL := 3) (ret := (some .int)) (E := fun sz => q_T) (Qc := fun sz => (va_Qi (fun r' _ => r' = r.1) (q_B D (wM cI cZ o b t) sz (wM cI cZ o b r.2)) (va_A (wM cI cZ o b t) sz))) (free := fun sz => va_A (wM cI cZ o b t) sz) (plainFor_of_name (by decide)) (Nat.le_of_ble_eq_true rfl) (fun p e s m below meth c C0 hname hP hK hD hE ls hl => ?_)
  have hA : ∀ q, s.heap.size ≤ q → (va_A (wM cI cZ o b t) s.heap.size) q := fun _ => Or.inr
  have hS : va_S (va_A (wM cI cZ o b t) s.heap.size) s.heap s.heap [] := va_S.rf
  have hl : lv_has ls 3 [(0, .ref o), (1, .int a1), (2, .int a2)] := hl
  obtain ⟨hx, hb, hr, hml, hown, hts, hlocks⟩ := id C0
  have hF : CallFix p m c cX4_settle 3 s _ BW RX4 := ⟨hx, hb, hml, hown, hts⟩
  rw [f_X4_settle] at h
  refine lv_aload_n hx hb dX4_settle_0 rfl (lv_at hl 0 rfl) ?_
  obtain ⟨x1, h2, h⟩ := bE h
  refine x_VV (As := []) (rest := []) (wr := []) (W1 := wM cI cZ o b x1) hF (c_X4_putAside l D cI cZ cT _ o b t  x1 h2) (cwV 0 hts (gqV mw_516 mw_517 mw_518 mw_428 mw_422) rfl rfl rfl hd_X4_putAside ⟨Nat.le_of_ble_eq_true rfl, Nat.le_of_ble_eq_true rfl⟩) hK hP hD hS hA q_T_bl (fun _ _ _ => trivial) [0, 1, 2, 3, 4, 5, 6] [] [0, 1, 2, 3, 4, 5, 6] rfl rfl ⟨rfl, rfl, rfl, rfl⟩ rfl rfl rfl rfl hl.1 rfl (Nat.le_of_ble_eq_true rfl) dX4_settle_1 ⟨Nat.zero_le _, Nat.zero_le _⟩ (fun H locs hP hD hS => ?_)
  refine lv_aload_n hx hb dX4_settle_4 rfl (lv_at hl 0 rfl) ?_
  refine lv_aload_n hx hb dX4_settle_5 rfl (lv_at hl 0 rfl) ?_
  refine lv_iload_n hx hb dX4_settle_6 rfl (lv_at hl 1 rfl) ?_
  refine lv_iload_n hx hb dX4_settle_7 rfl (lv_at hl 2 rfl) ?_
  obtain ⟨x3, h4, h⟩ := bE h
  refine x_MV (As := [.int a1, .int a2]) (rest := [.ref o]) (wr := (([2, 3, 4, 5, 6] : List Nat).filterMap (fun i => (wM cI cZ o b x1)[i]?))) (W1 := wM cI cZ o b (M0 x1 x3.2)) hF (c_X4_settles l D cI cZ cT _ o (wMf b x1) (b 0) rfl x1.1 a1 a2 x3 h4) (cwV 2 hts (gqV mw_538 mw_539 mw_540 mw_428 mw_502) rfl rfl rfl hd_X4_settles ⟨Nat.le_of_ble_eq_true rfl, Nat.le_of_ble_eq_true rfl⟩) hK hP hD hS hA q_T_bl (fun _ _ _ => trivial) [0, 1] [2, 3, 4, 5, 6] [5, 6, 0, 1, 2, 3, 4] rfl rfl ⟨rfl, rfl, rfl, rfl⟩ rfl rfl rfl rfl hl.1 rfl (Nat.le_of_ble_eq_true rfl) dX4_settle_8 ⟨Nat.zero_le _, Nat.zero_le _⟩ (fun H locs hP hD hS => ?_)
  obtain ⟨x5, h6, h⟩ := bE h
  refine x_MV (As := [.int x3.1]) (rest := []) (wr := []) (W1 := wM cI cZ o b x5.2) hF (c_X4_end l D cI cZ cT _ o b (M0 x1 x3.2) x3.1 x5 h6) (cwV 1 hts (gqV mw_519 mw_520 mw_521 mw_428 mw_423) rfl rfl rfl hd_X4_end ⟨Nat.le_of_ble_eq_true rfl, Nat.le_of_ble_eq_true rfl⟩) hK hP hD hS hA q_T_bl (fun _ _ _ => trivial) [0, 1, 2, 3, 4, 5, 6] [] [0, 1, 2, 3, 4, 5, 6] rfl rfl ⟨rfl, rfl, rfl, rfl⟩ rfl rfl rfl rfl hl.1 rfl (Nat.le_of_ble_eq_true rfl) dX4_settle_11 ⟨Nat.zero_le _, Nat.zero_le _⟩ (fun H locs hP hD hS => ?_)
  cases h
  exact x_retM C0 rfl hP hD hS dX4_settle_14

/-! QuarrelWaysModel.fight (I)I -/
def f_X4_fight (t : MM) (a1 : Int32) : Option (Int32 × MM) := ((f_X4_putAside t).bind fun x1 => ((f_X4_fights x1.1 a1).bind fun x3 => ((f_X4_end (M0 x1 x3.2) x3.1).bind fun x5 => some (x5.1, x5.2))))
abbrev rm_X4_fight : Room := { frames := 7, cells := 0, slots := 0, locals := 169 }
theorem hd_X4_fight : yX4_fight.cls = RX4 ∧ yX4_fight.cls ≠ "java/lang/invoke/MethodHandle" ∧ yX4_fight.cls ≠ "java/lang/invoke/VarHandle" ∧ (parseMethodDescriptor yX4_fight.desc).map (fun d => d.parameters.length) = some 1 := by decide +kernel
set_option maxHeartbeats 4000000 in
set_option maxRecDepth 100000 in
theorem c_X4_fight (l : Launch) (D : va_G) (cI cZ cT : ClassId) (sz : Nat) (o : Nat) (b : Nat → Nat) (t : MM) (a1 : Int32) (r : Int32 × MM) (h : f_X4_fight t a1 = some r) : Met l yX4_fight (wq yX4_fight cX4_fight 2 (some .int)) rm_X4_fight (q_M D (q_tys cI cZ cT) sz (wM cI cZ o b t) q_T [.ref o, .int a1]) (va_Qi (fun r' _ => r' = r.1) (q_B D (wM cI cZ o b t) sz (wM cI cZ o b r.2)) (va_A (wM cI cZ o b t) sz)) 0 0 (va_A (wM cI cZ o b t) sz) := by
  refine q_MI (cc := cX4_fight) (maxL := 2) (ret := (some .int)) (E := fun sz => q_T) (Qc := fun sz => (va_Qi (fun r' _ => r' = r.1) (q_B D (wM cI cZ o b t) sz (wM cI cZ o b r.2)) (va_A (wM cI cZ o b t) sz))) (free := fun sz => va_A (wM cI cZ o b t) sz) (plainFor_of_name (by decide)) (Nat.le_of_ble_eq_true rfl) (fun p e s m below meth c C0 hname hP hK hD hE ls hl => ?_)
  have hA : ∀ q, s.heap.size ≤ q → (va_A (wM cI cZ o b t) s.heap.size) q := fun _ => Or.inr
  have hS : va_S (va_A (wM cI cZ o b t) s.heap.size) s.heap s.heap [] := va_S.rf
  have hl : lv_has ls 2 [(0, .ref o), (1, .int a1)] := hl
  obtain ⟨hx, hb, hr, hml, hown, hts, hlocks⟩ := id C0
  have hF : CallFix p m c cX4_fight 2 s _ BW RX4 := ⟨hx, hb, hml, hown, hts⟩
  rw [f_X4_fight] at h
  refine lv_aload_n hx hb dX4_fight_0 rfl (lv_at hl 0 rfl) ?_
  obtain ⟨x1, h2, h⟩ := bE h
  refine x_VV (As := []) (rest := []) (wr := []) (W1 := wM cI cZ o b x1) hF (c_X4_putAside l D cI cZ cT _ o b t  x1 h2) (cwV 0 hts (gqV mw_516 mw_517 mw_518 mw_428 mw_422) rfl rfl rfl hd_X4_putAside ⟨Nat.le_of_ble_eq_true rfl, Nat.le_of_ble_eq_true rfl⟩) hK hP hD hS hA q_T_bl (fun _ _ _ => trivial) [0, 1, 2, 3, 4, 5, 6] [] [0, 1, 2, 3, 4, 5, 6] rfl rfl ⟨rfl, rfl, rfl, rfl⟩ rfl rfl rfl rfl hl.1 rfl (Nat.le_of_ble_eq_true rfl) dX4_fight_1 ⟨Nat.zero_le _, Nat.zero_le _⟩ (fun H locs hP hD hS => ?_)
  refine lv_aload_n hx hb dX4_fight_4 rfl (lv_at hl 0 rfl) ?_
  refine lv_aload_n hx hb dX4_fight_5 rfl (lv_at hl 0 rfl) ?_
  refine lv_iload_n hx hb dX4_fight_6 rfl (lv_at hl 1 rfl) ?_
  obtain ⟨x3, h4, h⟩ := bE h
  refine x_MV (As := [.int a1]) (rest := [.ref o]) (wr := (([2, 3, 4, 5, 6] : List Nat).filterMap (fun i => (wM cI cZ o b x1)[i]?))) (W1 := wM cI cZ o b (M0 x1 x3.2)) hF (c_X4_fights l D cI cZ cT _ o (wMf b x1) (b 0) rfl x1.1 a1 x3 h4) (cwV 1 hts (gqV mw_542 mw_543 mw_544 mw_428 mw_509) rfl rfl rfl hd_X4_fights ⟨Nat.le_of_ble_eq_true rfl, Nat.le_of_ble_eq_true rfl⟩) hK hP hD hS hA q_T_bl (fun _ _ _ => trivial) [0, 1] [2, 3, 4, 5, 6] [5, 6, 0, 1, 2, 3, 4] rfl rfl ⟨rfl, rfl, rfl, rfl⟩ rfl rfl rfl rfl hl.1 rfl (Nat.le_of_ble_eq_true rfl) dX4_fight_7 ⟨Nat.zero_le _, Nat.zero_le _⟩ (fun H locs hP hD hS => ?_)
  obtain ⟨x5, h6, h⟩ := bE h
  refine x_MV (As := [.int x3.1]) (rest := []) (wr := []) (W1 := wM cI cZ o b x5.2) hF (c_X4_end l D cI cZ cT _ o b (M0 x1 x3.2) x3.1 x5 h6) (cwV 1 hts (gqV mw_519 mw_520 mw_521 mw_428 mw_423) rfl rfl rfl hd_X4_end ⟨Nat.le_of_ble_eq_true rfl, Nat.le_of_ble_eq_true rfl⟩) hK hP hD hS hA q_T_bl (fun _ _ _ => trivial) [0, 1, 2, 3, 4, 5, 6] [] [0, 1, 2, 3, 4, 5, 6] rfl rfl ⟨rfl, rfl, rfl, rfl⟩ rfl rfl rfl rfl hl.1 rfl (Nat.le_of_ble_eq_true rfl) dX4_fight_10 ⟨Nat.zero_le _, Nat.zero_le _⟩ (fun H locs hP hD hS => ?_)
  cases h
  exact x_retM C0 rfl hP hD hS dX4_fight_13

/-! QuarrelWaysModel.swear (I)I -/
def f_X4_swear (t : MM) (a1 : Int32) : Option (Int32 × MM) := ((f_X4_putAside t).bind fun x1 => ((f_X4_swears x1.1 a1).bind fun x3 => ((f_X4_end (M0 x1 x3.2) x3.1).bind fun x5 => some (x5.1, x5.2))))
abbrev rm_X4_swear : Room := { frames := 3, cells := 0, slots := 0, locals := 65 }
theorem hd_X4_swear : yX4_swear.cls = RX4 ∧ yX4_swear.cls ≠ "java/lang/invoke/MethodHandle" ∧ yX4_swear.cls ≠ "java/lang/invoke/VarHandle" ∧ (parseMethodDescriptor yX4_swear.desc).map (fun d => d.parameters.length) = some 1 := by decide +kernel
set_option maxHeartbeats 4000000 in
set_option maxRecDepth 100000 in
theorem c_X4_swear (l : Launch) (D : va_G) (cI cZ cT : ClassId) (sz : Nat) (o : Nat) (b : Nat → Nat) (t : MM) (a1 : Int32) (r : Int32 × MM) (h : f_X4_swear t a1 = some r) : Met l yX4_swear (wq yX4_swear cX4_swear 2 (some .int)) rm_X4_swear (q_M D (q_tys cI cZ cT) sz (wM cI cZ o b t) q_T [.ref o, .int a1]) (va_Qi (fun r' _ => r' = r.1) (q_B D (wM cI cZ o b t) sz (wM cI cZ o b r.2)) (va_A (wM cI cZ o b t) sz)) 0 0 (va_A (wM cI cZ o b t) sz) := by
  refine q_MI (cc := cX4_swear) (maxL := 2) (ret := (some .int)) (E := fun sz => q_T) (Qc := fun sz => (va_Qi (fun r' _ => r' = r.1) (q_B D (wM cI cZ o b t) sz (wM cI cZ o b r.2)) (va_A (wM cI cZ o b t) sz))) (free := fun sz => va_A (wM cI cZ o b t) sz) (plainFor_of_name (by decide)) (Nat.le_of_ble_eq_true rfl) (fun p e s m below meth c C0 hname hP hK hD hE ls hl => ?_)
  have hA : ∀ q, s.heap.size ≤ q → (va_A (wM cI cZ o b t) s.heap.size) q := fun _ => Or.inr
  have hS : va_S (va_A (wM cI cZ o b t) s.heap.size) s.heap s.heap [] := va_S.rf
  have hl : lv_has ls 2 [(0, .ref o), (1, .int a1)] := hl
  obtain ⟨hx, hb, hr, hml, hown, hts, hlocks⟩ := id C0
  have hF : CallFix p m c cX4_swear 2 s _ BW RX4 := ⟨hx, hb, hml, hown, hts⟩
  rw [f_X4_swear] at h
  refine lv_aload_n hx hb dX4_swear_0 rfl (lv_at hl 0 rfl) ?_
  obtain ⟨x1, h2, h⟩ := bE h
  refine x_VV (As := []) (rest := []) (wr := []) (W1 := wM cI cZ o b x1) hF (c_X4_putAside l D cI cZ cT _ o b t  x1 h2) (cwV 0 hts (gqV mw_516 mw_517 mw_518 mw_428 mw_422) rfl rfl rfl hd_X4_putAside ⟨Nat.le_of_ble_eq_true rfl, Nat.le_of_ble_eq_true rfl⟩) hK hP hD hS hA q_T_bl (fun _ _ _ => trivial) [0, 1, 2, 3, 4, 5, 6] [] [0, 1, 2, 3, 4, 5, 6] rfl rfl ⟨rfl, rfl, rfl, rfl⟩ rfl rfl rfl rfl hl.1 rfl (Nat.le_of_ble_eq_true rfl) dX4_swear_1 ⟨Nat.zero_le _, Nat.zero_le _⟩ (fun H locs hP hD hS => ?_)
  refine lv_aload_n hx hb dX4_swear_4 rfl (lv_at hl 0 rfl) ?_
  refine lv_aload_n hx hb dX4_swear_5 rfl (lv_at hl 0 rfl) ?_
  refine lv_iload_n hx hb dX4_swear_6 rfl (lv_at hl 1 rfl) ?_
  obtain ⟨x3, h4, h⟩ := bE h
  refine x_MV (As := [.int a1]) (rest := [.ref o]) (wr := (([2, 3, 4, 5, 6] : List Nat).filterMap (fun i => (wM cI cZ o b x1)[i]?))) (W1 := wM cI cZ o b (M0 x1 x3.2)) hF (c_X4_swears l D cI cZ cT _ o (wMf b x1) (b 0) rfl x1.1 a1 x3 h4) (cwV 1 hts (gqV mw_546 mw_547 mw_548 mw_428 mw_510) rfl rfl rfl hd_X4_swears ⟨Nat.le_of_ble_eq_true rfl, Nat.le_of_ble_eq_true rfl⟩) hK hP hD hS hA q_T_bl (fun _ _ _ => trivial) [0, 1] [2, 3, 4, 5, 6] [5, 6, 0, 1, 2, 3, 4] rfl rfl ⟨rfl, rfl, rfl, rfl⟩ rfl rfl rfl rfl hl.1 rfl (Nat.le_of_ble_eq_true rfl) dX4_swear_7 ⟨Nat.zero_le _, Nat.zero_le _⟩ (fun H locs hP hD hS => ?_)
  obtain ⟨x5, h6, h⟩ := bE h
  refine x_MV (As := [.int x3.1]) (rest := []) (wr := []) (W1 := wM cI cZ o b x5.2) hF (c_X4_end l D cI cZ cT _ o b (M0 x1 x3.2) x3.1 x5 h6) (cwV 1 hts (gqV mw_519 mw_520 mw_521 mw_428 mw_423) rfl rfl rfl hd_X4_end ⟨Nat.le_of_ble_eq_true rfl, Nat.le_of_ble_eq_true rfl⟩) hK hP hD hS hA q_T_bl (fun _ _ _ => trivial) [0, 1, 2, 3, 4, 5, 6] [] [0, 1, 2, 3, 4, 5, 6] rfl rfl ⟨rfl, rfl, rfl, rfl⟩ rfl rfl rfl rfl hl.1 rfl (Nat.le_of_ble_eq_true rfl) dX4_swear_10 ⟨Nat.zero_le _, Nat.zero_le _⟩ (fun H locs hP hD hS => ?_)
  cases h
  exact x_retM C0 rfl hP hD hS dX4_swear_13

/-! QuarrelWaysModel.pass (I)I -/
def f_X4_pass (t : MM) (a1 : Int32) : Option (Int32 × MM) := ((f_X4_putAside t).bind fun x1 => ((f_X4_passes x1.1 a1).bind fun x3 => ((f_X4_end (M0 x1 x3.2) x3.1).bind fun x5 => some (x5.1, x5.2))))
abbrev rm_X4_pass : Room := { frames := 8, cells := 0, slots := 0, locals := 188 }
theorem hd_X4_pass : yX4_pass.cls = RX4 ∧ yX4_pass.cls ≠ "java/lang/invoke/MethodHandle" ∧ yX4_pass.cls ≠ "java/lang/invoke/VarHandle" ∧ (parseMethodDescriptor yX4_pass.desc).map (fun d => d.parameters.length) = some 1 := by decide +kernel
set_option maxHeartbeats 4000000 in
set_option maxRecDepth 100000 in
theorem c_X4_pass (l : Launch) (D : va_G) (cI cZ cT : ClassId) (sz : Nat) (o : Nat) (b : Nat → Nat) (t : MM) (a1 : Int32) (r : Int32 × MM) (h : f_X4_pass t a1 = some r) : Met l yX4_pass (wq yX4_pass cX4_pass 2 (some .int)) rm_X4_pass (q_M D (q_tys cI cZ cT) sz (wM cI cZ o b t) q_T [.ref o, .int a1]) (va_Qi (fun r' _ => r' = r.1) (q_B D (wM cI cZ o b t) sz (wM cI cZ o b r.2)) (va_A (wM cI cZ o b t) sz)) 0 0 (va_A (wM cI cZ o b t) sz) := by
  refine q_MI (cc := cX4_pass) (maxL := 2) (ret := (some .int)) (E := fun sz => q_T) (Qc := fun sz => (va_Qi (fun r' _ => r' = r.1) (q_B D (wM cI cZ o b t) sz (wM cI cZ o b r.2)) (va_A (wM cI cZ o b t) sz))) (free := fun sz => va_A (wM cI cZ o b t) sz) (plainFor_of_name (by decide)) (Nat.le_of_ble_eq_true rfl) (fun p e s m below meth c C0 hname hP hK hD hE ls hl => ?_)
  have hA : ∀ q, s.heap.size ≤ q → (va_A (wM cI cZ o b t) s.heap.size) q := fun _ => Or.inr
  have hS : va_S (va_A (wM cI cZ o b t) s.heap.size) s.heap s.heap [] := va_S.rf
  have hl : lv_has ls 2 [(0, .ref o), (1, .int a1)] := hl
  obtain ⟨hx, hb, hr, hml, hown, hts, hlocks⟩ := id C0
  have hF : CallFix p m c cX4_pass 2 s _ BW RX4 := ⟨hx, hb, hml, hown, hts⟩
  rw [f_X4_pass] at h
  refine lv_aload_n hx hb dX4_pass_0 rfl (lv_at hl 0 rfl) ?_
  obtain ⟨x1, h2, h⟩ := bE h
  refine x_VV (As := []) (rest := []) (wr := []) (W1 := wM cI cZ o b x1) hF (c_X4_putAside l D cI cZ cT _ o b t  x1 h2) (cwV 0 hts (gqV mw_516 mw_517 mw_518 mw_428 mw_422) rfl rfl rfl hd_X4_putAside ⟨Nat.le_of_ble_eq_true rfl, Nat.le_of_ble_eq_true rfl⟩) hK hP hD hS hA q_T_bl (fun _ _ _ => trivial) [0, 1, 2, 3, 4, 5, 6] [] [0, 1, 2, 3, 4, 5, 6] rfl rfl ⟨rfl, rfl, rfl, rfl⟩ rfl rfl rfl rfl hl.1 rfl (Nat.le_of_ble_eq_true rfl) dX4_pass_1 ⟨Nat.zero_le _, Nat.zero_le _⟩ (fun H locs hP hD hS => ?_)
  refine lv_aload_n hx hb dX4_pass_4 rfl (lv_at hl 0 rfl) ?_
  refine lv_aload_n hx hb dX4_pass_5 rfl (lv_at hl 0 rfl) ?_
  refine lv_iload_n hx hb dX4_pass_6 rfl (lv_at hl 1 rfl) ?_
  obtain ⟨x3, h4, h⟩ := bE h
  refine x_MV (As := [.int a1]) (rest := [.ref o]) (wr := (([2, 3, 4, 5, 6] : List Nat).filterMap (fun i => (wM cI cZ o b x1)[i]?))) (W1 := wM cI cZ o b (M0 x1 x3.2)) hF (c_X4_passes l D cI cZ cT _ o (wMf b x1) (b 0) rfl x1.1 a1 x3 h4) (cwV 1 hts (gqV mw_550 mw_551 mw_552 mw_428 mw_514) rfl rfl rfl hd_X4_passes ⟨Nat.le_of_ble_eq_true rfl, Nat.le_of_ble_eq_true rfl⟩) hK hP hD hS hA q_T_bl (fun _ _ _ => trivial) [0, 1] [2, 3, 4, 5, 6] [5, 6, 0, 1, 2, 3, 4] rfl rfl ⟨rfl, rfl, rfl, rfl⟩ rfl rfl rfl rfl hl.1 rfl (Nat.le_of_ble_eq_true rfl) dX4_pass_7 ⟨Nat.zero_le _, Nat.zero_le _⟩ (fun H locs hP hD hS => ?_)
  obtain ⟨x5, h6, h⟩ := bE h
  refine x_MV (As := [.int x3.1]) (rest := []) (wr := []) (W1 := wM cI cZ o b x5.2) hF (c_X4_end l D cI cZ cT _ o b (M0 x1 x3.2) x3.1 x5 h6) (cwV 1 hts (gqV mw_519 mw_520 mw_521 mw_428 mw_423) rfl rfl rfl hd_X4_end ⟨Nat.le_of_ble_eq_true rfl, Nat.le_of_ble_eq_true rfl⟩) hK hP hD hS hA q_T_bl (fun _ _ _ => trivial) [0, 1, 2, 3, 4, 5, 6] [] [0, 1, 2, 3, 4, 5, 6] rfl rfl ⟨rfl, rfl, rfl, rfl⟩ rfl rfl rfl rfl hl.1 rfl (Nat.le_of_ble_eq_true rfl) dX4_pass_10 ⟨Nat.zero_le _, Nat.zero_le _⟩ (fun H locs hP hD hS => ?_)
  cases h
  exact x_retM C0 rfl hP hD hS dX4_pass_13

/-! QuarrelWaysModel.put (J)I -/
def f_X4_put_L83 (y1 : Int64) : Nat → MM → Int32 → Option (MM)
  | 0, _, _ => none
  | n + 1, z0, y4 => (if y4 < 0 then some z0 else ((f_X4_code y1 y4).bind fun x6 => ((wr z0.2.2.2.2.2.2.1 80 z0.2.2.2.2.2.2.2.1 x6).bind fun g8 => f_X4_put_L83 y1 n (M7 (M6 z0 g8) ((M6 z0 g8).2.2.2.2.2.2.2.1 + (1 : Int32))) (y4 + (-1 : Int32)))))
def f_X4_put_L2 (z0 : MM) (y1 : Int64) : Nat → Int32 → Option (Int32 × MM)
  | 0, _ => none
  | n + 1, y3 => (if (8 : Int32) ≤ y3 then (if y3 = 0 then some ((-2 : Int32), z0) else (if (8 : Int32) ≤ y3 then (if (z0.2.2.2.2.2.2.2.1 + y3) ≤ (80 : Int32) then ((f_X4_put_L83 y1 2000 z0 (y3 - (1 : Int32))).bind fun v10 => some (v10.2.2.2.2.2.2.2.1, v10)) else some ((-4 : Int32), z0)) else (if (lg_cmp ((y1.toUInt64 >>> (((8 : Int32) * y3).toInt64.toUInt64 &&& Int64.toUInt64 63)).toInt64) (0 : Int64)) = 0 then (if (z0.2.2.2.2.2.2.2.1 + y3) ≤ (80 : Int32) then ((f_X4_put_L83 y1 2000 z0 (y3 - (1 : Int32))).bind fun v14 => some (v14.2.2.2.2.2.2.2.1, v14)) else some ((-4 : Int32), z0)) else some ((-2 : Int32), z0)))) else ((f_X4_code y1 y3).bind fun x16 => (if x16 = 0 then (if y3 = 0 then some ((-2 : Int32), z0) else (if (8 : Int32) ≤ y3 then (if (z0.2.2.2.2.2.2.2.1 + y3) ≤ (80 : Int32) then ((f_X4_put_L83 y1 2000 z0 (y3 - (1 : Int32))).bind fun v22 => some (v22.2.2.2.2.2.2.2.1, v22)) else some ((-4 : Int32), z0)) else (if (lg_cmp ((y1.toUInt64 >>> (((8 : Int32) * y3).toInt64.toUInt64 &&& Int64.toUInt64 63)).toInt64) (0 : Int64)) = 0 then (if (z0.2.2.2.2.2.2.2.1 + y3) ≤ (80 : Int32) then ((f_X4_put_L83 y1 2000 z0 (y3 - (1 : Int32))).bind fun v26 => some (v26.2.2.2.2.2.2.2.1, v26)) else some ((-4 : Int32), z0)) else some ((-2 : Int32), z0)))) else ((f_X4_code y1 y3).bind fun x28 => ((f_X4_in x28 (33 : Int32) (126 : Int32)).bind fun x30 => (if x30 = 0 then some ((-2 : Int32), z0) else f_X4_put_L2 z0 y1 n (y3 + (1 : Int32))))))))
def f_X4_put (t : MM) (a1 : Int64) : Option (Int32 × MM) := f_X4_put_L2 t a1 2000 (0 : Int32)
abbrev rm_X4_put : Room := { frames := 1, cells := 0, slots := 0, locals := 22 }
theorem hd_X4_put : yX4_put.cls = RX4 ∧ yX4_put.cls ≠ "java/lang/invoke/MethodHandle" ∧ yX4_put.cls ≠ "java/lang/invoke/VarHandle" ∧ (parseMethodDescriptor yX4_put.desc).map (fun d => d.parameters.length) = some 1 := by decide +kernel
set_option maxHeartbeats 4000000 in
set_option maxRecDepth 100000 in
theorem k_X4_put_L83 {Q : State → Prop} {v : MM} (o : Nat) (b : Nat → Nat) (y1 : Int64) {A : Nat → Prop} (hA : ∀ q, s.heap.size ≤ q → A q) (C0 : q_At p s m args meth c cX4_put 5 (some .int) RX4) (hK : va_K D vwCl (q_tys cI cZ cT) s) (hj : ∀ (H : Heap) (locs : List Loc) (ls : Array Slot), va_P D vwCl (wM cI cZ o b v) H → va_D A (wM cI cZ o b v) → va_S A s.heap H locs → lv_has ls 5 [(0, .ref o)] → W p l e rm_X4_put s m args below meth c H locs 0 0 Q (F0 m 119 ls [])) : ∀ (n : Nat) (z0 : MM) (y4 : Int32) (H : Heap) (locs : List Loc) (ls : Array Slot), va_P D vwCl (wM cI cZ o b z0) H → va_D A (wM cI cZ o b z0) → va_S A s.heap H locs → lv_has ls 5 [(0, .ref o), (1, .long y1), (4, .int y4)] → f_X4_put_L83 y1 n z0 y4 = some v → W p l e rm_X4_put s m args below meth c H locs 0 0 (Q) (F0 m 83 ls []) := by
  obtain ⟨hx, hb, hr, hml, hown, hts, hlocks⟩ := id C0
  have hF : CallFix p m c cX4_put 5 s args BW RX4 := ⟨hx, hb, hml, hown, hts⟩
  intro n
  induction n with
  | zero =>
    intro z0 y4 H locs ls hP hD hS hl h
    rw [f_X4_put_L83] at h
    cases h
  | succ n ih =>
    intro z0 y4 H locs ls hP hD hS hl h
    rw [f_X4_put_L83] at h
    refine lv_iload hx hb dX4_put_83 (lv_at hl 2 rfl) ?_
    refine lv_if_lt (tgt := 119) hx hb dX4_put_85 (by decide) (fun c5 => ?_) (fun c5 => ?_)
    · have h := xt c5 h
      cases h
      exact hj _ _ _ hP hD hS (lv_sub hl [0] rfl)
    · have h := xf c5 h
      refine lv_aload_n hx hb dX4_put_88 rfl (lv_at hl 0 rfl) ?_
      refine va_get (D := D) (v := .ref (b 6)) (C := RX4) (T := TX4) (N := 10) hx hb hts iw_X4 hown hK hP 0 rfl rfl 6 (by decide) (hts _ mw_420) (fun _ h9 => h9) rfl dX4_put_89 ?_
      refine lv_aload_n hx hb dX4_put_92 rfl (lv_at hl 0 rfl) ?_
      refine va_get (D := D) (v := .int z0.2.2.2.2.2.2.2.1) (C := RX4) (T := TX4) (N := 10) hx hb hts iw_X4 hown hK hP 0 rfl rfl 7 (by decide) (hts _ mw_576) (fun _ h9 => h9) rfl dX4_put_93 ?_
      refine lv_lload_n hx hb dX4_put_96 rfl (lv_at hl 1 rfl) ?_
      refine lv_iload hx hb dX4_put_97 (lv_at hl 2 rfl) ?_
      obtain ⟨x6, h7, h⟩ := bE h
      refine x_RS (As := [.long y1, .int y4]) (rest := [.int z0.2.2.2.2.2.2.2.1, .ref (b 6)]) hF (c_X4_code l D cI cZ cT  y1 y4 x6 h7) (va_cwS 2 hts (gqS mw_590 mw_591 mw_428 mw_587) rfl rfl rfl hd_X4_code.2 ⟨Nat.le_of_ble_eq_true rfl, Nat.le_of_ble_eq_true rfl⟩) hK hP q_T_bl (fun _ _ _ => trivial) [] rfl rfl hl.1 rfl (Nat.le_of_ble_eq_true rfl) dX4_put_99 ⟨Nat.zero_le _, Nat.zero_le _⟩ ?_
      obtain ⟨g8, h9, h⟩ := bE h
      refine x_iast (cA := cI) hx hb hK hP hD hS 6 0 rfl rfl h9 dX4_put_102 (fun H locs hP hD hS => ?_)
      have hP : va_P D vwCl (wM cI cZ o b (M6 z0 g8)) H := hP
      have hD : va_D A (wM cI cZ o b (M6 z0 g8)) := hD
      refine lv_aload_n hx hb dX4_put_103 rfl (lv_at hl 0 rfl) ?_
      refine lv_dup hx hb dX4_put_104 rfl ?_
      refine va_get (D := D) (v := .int ((M6 z0 g8).2.2.2.2.2.2.2.1)) (C := RX4) (T := TX4) (N := 10) hx hb hts iw_X4 hown hK hP 0 rfl rfl 7 (by decide) (hts _ mw_576) (fun _ h9 => h9) rfl dX4_put_105 ?_
      refine lv_iconst (v := 1) hx hb dX4_put_108 (by decide) ?_
      refine lv_iadd hx hb dX4_put_109 ?_
      refine va_put (D := D) (v := .int ((M6 z0 g8).2.2.2.2.2.2.2.1 + (1 : Int32))) (ty := .int) (C := RX4) (T := TX4) (N := 10) hx hb hts iw_X4 tyX4 tyX4_ok nmX4 hown hK hP hD hS 0 rfl rfl 7 (by decide) (hts _ mw_576) (fun _ h9 => h9) rfl (by decide +kernel) rfl rfl (Nat.le_of_ble_eq_true rfl) dX4_put_110 (fun H locs hP hD hS => ?_)
      have hP : va_P D vwCl (wM cI cZ o b (M7 (M6 z0 g8) ((M6 z0 g8).2.2.2.2.2.2.2.1 + (1 : Int32)))) H := hP
      have hD : va_D A (wM cI cZ o b (M7 (M6 z0 g8) ((M6 z0 g8).2.2.2.2.2.2.2.1 + (1 : Int32)))) := hD
      refine lv_iinc (v := (y4 + (-1 : Int32))) (lv' := [(4, .int (y4 + (-1 : Int32))), (0, .ref o), (1, .long y1)]) hx hb dX4_put_113 hl (k := 2) rfl rfl (by decide) rfl (fun ls hl => ?_)
      refine lv_goto (tgt := 83) hx hb dX4_put_116 (by decide) ?_
      exact ih (M7 (M6 z0 g8) ((M6 z0 g8).2.2.2.2.2.2.2.1 + (1 : Int32))) (y4 + (-1 : Int32)) _ _ _ hP hD hS (lv_sub hl [1, 2, 0] rfl) h
set_option maxHeartbeats 4000000 in
set_option maxRecDepth 100000 in
theorem k_X4_put_L2 {r : Int32 × MM} (o : Nat) (b : Nat → Nat) (z0 : MM) (y1 : Int64) (t : MM) (hA : ∀ q, s.heap.size ≤ q → (va_A (wM cI cZ o b t) s.heap.size) q) {H : Heap} {locs : List Loc} (hP : va_P D vwCl (wM cI cZ o b z0) H) (hD : va_D (va_A (wM cI cZ o b t) s.heap.size) (wM cI cZ o b z0)) (hS : va_S (va_A (wM cI cZ o b t) s.heap.size) s.heap H locs) (C0 : q_At p s m args meth c cX4_put 5 (some .int) RX4) (hK : va_K D vwCl (q_tys cI cZ cT) s) : ∀ (n : Nat) (y3 : Int32) (ls : Array Slot), lv_has ls 5 [(0, .ref o), (1, .long y1), (3, .int y3)] → f_X4_put_L2 z0 y1 n y3 = some r → W p l e rm_X4_put s m args below meth c H locs 0 0 (q_QM D below args s (wM cI cZ o b t) (wM cI cZ o b r.2) r.1) (F0 m 2 ls []) := by
  obtain ⟨hx, hb, hr, hml, hown, hts, hlocks⟩ := id C0
  have hF : CallFix p m c cX4_put 5 s args BW RX4 := ⟨hx, hb, hml, hown, hts⟩
  intro n
  induction n with
  | zero =>
    intro y3 ls hl h
    rw [f_X4_put_L2] at h
    cases h
  | succ n ih =>
    intro y3 ls hl h
    rw [f_X4_put_L2] at h
    refine lv_iload_n hx hb dX4_put_2 rfl (lv_at hl 2 rfl) ?_
    refine lv_bipush (v := 8) hx hb dX4_put_3 (by decide) ?_
    refine lv_icmp_ge (tgt := 40) hx hb dX4_put_5 (by decide) (fun c1 => ?_) (fun c1 => ?_)
    · have h := xt c1 h
      refine lv_iload_n hx hb dX4_put_40 rfl (lv_at hl 2 rfl) ?_
      refine lv_if_eq (tgt := 61) hx hb dX4_put_41 (by decide) (fun c2 => ?_) (fun c2 => ?_)
      · have h := xt c2 h
        refine lv_bipush (v := (-2)) hx hb dX4_put_61 (by decide) ?_
        cases h
        exact x_retM C0 rfl hP hD hS dX4_put_63
      · have h := xf c2 h
        refine lv_iload_n hx hb dX4_put_44 rfl (lv_at hl 2 rfl) ?_
        refine lv_bipush (v := 8) hx hb dX4_put_45 (by decide) ?_
        refine lv_icmp_ge (tgt := 64) hx hb dX4_put_47 (by decide) (fun c3 => ?_) (fun c3 => ?_)
        · have h := xt c3 h
          refine lv_aload_n hx hb dX4_put_64 rfl (lv_at hl 0 rfl) ?_
          refine va_get (D := D) (v := .int z0.2.2.2.2.2.2.2.1) (C := RX4) (T := TX4) (N := 10) hx hb hts iw_X4 hown hK hP 0 rfl rfl 7 (by decide) (hts _ mw_576) (fun _ h9 => h9) rfl dX4_put_65 ?_
          refine lv_iload_n hx hb dX4_put_68 rfl (lv_at hl 2 rfl) ?_
          refine lv_iadd hx hb dX4_put_69 ?_
          refine lv_bipush (v := 80) hx hb dX4_put_70 (by decide) ?_
          refine lv_icmp_le (tgt := 78) hx hb dX4_put_72 (by decide) (fun c4 => ?_) (fun c4 => ?_)
          · have h := xt c4 h
            refine lv_iload_n hx hb dX4_put_78 rfl (lv_at hl 2 rfl) ?_
            refine lv_iconst (v := 1) hx hb dX4_put_79 (by decide) ?_
            refine lv_isub hx hb dX4_put_80 ?_
            refine lv_istore (lv' := [(4, .int (y3 - (1 : Int32))), (0, .ref o), (1, .long y1), (3, .int y3)]) hx hb dX4_put_81 hl (by decide) rfl (fun ls hl => ?_)
            obtain ⟨v10, h11, h⟩ := bE h
            refine k_X4_put_L83 (v := v10) o b y1 hA C0 hK (fun H locs ls hP hD hS hl => ?_) 2000 z0 (y3 - (1 : Int32)) _ _ _ hP hD hS (lv_sub hl [1, 2, 0] rfl) h11
            refine lv_aload_n hx hb dX4_put_119 rfl (lv_at hl 0 rfl) ?_
            refine va_get (D := D) (v := .int v10.2.2.2.2.2.2.2.1) (C := RX4) (T := TX4) (N := 10) hx hb hts iw_X4 hown hK hP 0 rfl rfl 7 (by decide) (hts _ mw_576) (fun _ h9 => h9) rfl dX4_put_120 ?_
            cases h
            exact x_retM C0 rfl hP hD hS dX4_put_123
          · have h := xf c4 h
            refine lv_bipush (v := (-4)) hx hb dX4_put_75 (by decide) ?_
            cases h
            exact x_retM C0 rfl hP hD hS dX4_put_77
        · have h := xf c3 h
          refine lv_lload_n hx hb dX4_put_50 rfl (lv_at hl 1 rfl) ?_
          refine lv_bipush (v := 8) hx hb dX4_put_51 (by decide) ?_
          refine lv_iload_n hx hb dX4_put_53 rfl (lv_at hl 2 rfl) ?_
          refine lv_imul hx hb dX4_put_54 ?_
          refine lv_lushr hx hb dX4_put_55 rfl ?_
          refine lv_lconst (v := 0) hx hb dX4_put_56 (by decide) ?_
          refine W.lcmp hx hb dX4_put_57 ?_
          refine lv_if_eq (tgt := 64) hx hb dX4_put_58 (by decide) (fun c12 => ?_) (fun c12 => ?_)
          · have h := xt c12 h
            refine lv_aload_n hx hb dX4_put_64 rfl (lv_at hl 0 rfl) ?_
            refine va_get (D := D) (v := .int z0.2.2.2.2.2.2.2.1) (C := RX4) (T := TX4) (N := 10) hx hb hts iw_X4 hown hK hP 0 rfl rfl 7 (by decide) (hts _ mw_576) (fun _ h9 => h9) rfl dX4_put_65 ?_
            refine lv_iload_n hx hb dX4_put_68 rfl (lv_at hl 2 rfl) ?_
            refine lv_iadd hx hb dX4_put_69 ?_
            refine lv_bipush (v := 80) hx hb dX4_put_70 (by decide) ?_
            refine lv_icmp_le (tgt := 78) hx hb dX4_put_72 (by decide) (fun c13 => ?_) (fun c13 => ?_)
            · have h := xt c13 h
              refine lv_iload_n hx hb dX4_put_78 rfl (lv_at hl 2 rfl) ?_
              refine lv_iconst (v := 1) hx hb dX4_put_79 (by decide) ?_
              refine lv_isub hx hb dX4_put_80 ?_
              refine lv_istore (lv' := [(4, .int (y3 - (1 : Int32))), (0, .ref o), (1, .long y1), (3, .int y3)]) hx hb dX4_put_81 hl (by decide) rfl (fun ls hl => ?_)
              obtain ⟨v14, h15, h⟩ := bE h
              refine k_X4_put_L83 (v := v14) o b y1 hA C0 hK (fun H locs ls hP hD hS hl => ?_) 2000 z0 (y3 - (1 : Int32)) _ _ _ hP hD hS (lv_sub hl [1, 2, 0] rfl) h15
              refine lv_aload_n hx hb dX4_put_119 rfl (lv_at hl 0 rfl) ?_
              refine va_get (D := D) (v := .int v14.2.2.2.2.2.2.2.1) (C := RX4) (T := TX4) (N := 10) hx hb hts iw_X4 hown hK hP 0 rfl rfl 7 (by decide) (hts _ mw_576) (fun _ h9 => h9) rfl dX4_put_120 ?_
              cases h
              exact x_retM C0 rfl hP hD hS dX4_put_123
            · have h := xf c13 h
              refine lv_bipush (v := (-4)) hx hb dX4_put_75 (by decide) ?_
              cases h
              exact x_retM C0 rfl hP hD hS dX4_put_77
          · have h := xf c12 h
            refine lv_bipush (v := (-2)) hx hb dX4_put_61 (by decide) ?_
            cases h
            exact x_retM C0 rfl hP hD hS dX4_put_63
    · have h := xf c1 h
      refine lv_lload_n hx hb dX4_put_8 rfl (lv_at hl 1 rfl) ?_
      refine lv_iload_n hx hb dX4_put_9 rfl (lv_at hl 2 rfl) ?_
      obtain ⟨x16, h17, h⟩ := bE h
      refine x_RS (As := [.long y1, .int y3]) (rest := []) hF (c_X4_code l D cI cZ cT  y1 y3 x16 h17) (va_cwS 2 hts (gqS mw_590 mw_591 mw_428 mw_587) rfl rfl rfl hd_X4_code.2 ⟨Nat.le_of_ble_eq_true rfl, Nat.le_of_ble_eq_true rfl⟩) hK hP q_T_bl (fun _ _ _ => trivial) [] rfl rfl hl.1 rfl (Nat.le_of_ble_eq_true rfl) dX4_put_10 ⟨Nat.zero_le _, Nat.zero_le _⟩ ?_
      refine lv_if_eq (tgt := 40) hx hb dX4_put_13 (by decide) (fun c18 => ?_) (fun c18 => ?_)
      · have h := xt c18 h
        refine lv_iload_n hx hb dX4_put_40 rfl (lv_at hl 2 rfl) ?_
        refine lv_if_eq (tgt := 61) hx hb dX4_put_41 (by decide) (fun c19 => ?_) (fun c19 => ?_)
        · have h := xt c19 h
          refine lv_bipush (v := (-2)) hx hb dX4_put_61 (by decide) ?_
          cases h
          exact x_retM C0 rfl hP hD hS dX4_put_63
        · have h := xf c19 h
          refine lv_iload_n hx hb dX4_put_44 rfl (lv_at hl 2 rfl) ?_
          refine lv_bipush (v := 8) hx hb dX4_put_45 (by decide) ?_
          refine lv_icmp_ge (tgt := 64) hx hb dX4_put_47 (by decide) (fun c20 => ?_) (fun c20 => ?_)
          · have h := xt c20 h
            refine lv_aload_n hx hb dX4_put_64 rfl (lv_at hl 0 rfl) ?_
            refine va_get (D := D) (v := .int z0.2.2.2.2.2.2.2.1) (C := RX4) (T := TX4) (N := 10) hx hb hts iw_X4 hown hK hP 0 rfl rfl 7 (by decide) (hts _ mw_576) (fun _ h9 => h9) rfl dX4_put_65 ?_
            refine lv_iload_n hx hb dX4_put_68 rfl (lv_at hl 2 rfl) ?_
            refine lv_iadd hx hb dX4_put_69 ?_
            refine lv_bipush (v := 80) hx hb dX4_put_70 (by decide) ?_
            refine lv_icmp_le (tgt := 78) hx hb dX4_put_72 (by decide) (fun c21 => ?_) (fun c21 => ?_)
            · have h := xt c21 h
              refine lv_iload_n hx hb dX4_put_78 rfl (lv_at hl 2 rfl) ?_
              refine lv_iconst (v := 1) hx hb dX4_put_79 (by decide) ?_
              refine lv_isub hx hb dX4_put_80 ?_
              refine lv_istore (lv' := [(4, .int (y3 - (1 : Int32))), (0, .ref o), (1, .long y1), (3, .int y3)]) hx hb dX4_put_81 hl (by decide) rfl (fun ls hl => ?_)
              obtain ⟨v22, h23, h⟩ := bE h
              refine k_X4_put_L83 (v := v22) o b y1 hA C0 hK (fun H locs ls hP hD hS hl => ?_) 2000 z0 (y3 - (1 : Int32)) _ _ _ hP hD hS (lv_sub hl [1, 2, 0] rfl) h23
              refine lv_aload_n hx hb dX4_put_119 rfl (lv_at hl 0 rfl) ?_
              refine va_get (D := D) (v := .int v22.2.2.2.2.2.2.2.1) (C := RX4) (T := TX4) (N := 10) hx hb hts iw_X4 hown hK hP 0 rfl rfl 7 (by decide) (hts _ mw_576) (fun _ h9 => h9) rfl dX4_put_120 ?_
              cases h
              exact x_retM C0 rfl hP hD hS dX4_put_123
            · have h := xf c21 h
              refine lv_bipush (v := (-4)) hx hb dX4_put_75 (by decide) ?_
              cases h
              exact x_retM C0 rfl hP hD hS dX4_put_77
          · have h := xf c20 h
            refine lv_lload_n hx hb dX4_put_50 rfl (lv_at hl 1 rfl) ?_
            refine lv_bipush (v := 8) hx hb dX4_put_51 (by decide) ?_
            refine lv_iload_n hx hb dX4_put_53 rfl (lv_at hl 2 rfl) ?_
            refine lv_imul hx hb dX4_put_54 ?_
            refine lv_lushr hx hb dX4_put_55 rfl ?_
            refine lv_lconst (v := 0) hx hb dX4_put_56 (by decide) ?_
            refine W.lcmp hx hb dX4_put_57 ?_
            refine lv_if_eq (tgt := 64) hx hb dX4_put_58 (by decide) (fun c24 => ?_) (fun c24 => ?_)
            · have h := xt c24 h
              refine lv_aload_n hx hb dX4_put_64 rfl (lv_at hl 0 rfl) ?_
              refine va_get (D := D) (v := .int z0.2.2.2.2.2.2.2.1) (C := RX4) (T := TX4) (N := 10) hx hb hts iw_X4 hown hK hP 0 rfl rfl 7 (by decide) (hts _ mw_576) (fun _ h9 => h9) rfl dX4_put_65 ?_
              refine lv_iload_n hx hb dX4_put_68 rfl (lv_at hl 2 rfl) ?_
              refine lv_iadd hx hb dX4_put_69 ?_
              refine lv_bipush (v := 80) hx hb dX4_put_70 (by decide) ?_
              refine lv_icmp_le (tgt := 78) hx hb dX4_put_72 (by decide) (fun c25 => ?_) (fun c25 => ?_)
              · have h := xt c25 h
                refine lv_iload_n hx hb dX4_put_78 rfl (lv_at hl 2 rfl) ?_
                refine lv_iconst (v := 1) hx hb dX4_put_79 (by decide) ?_
                refine lv_isub hx hb dX4_put_80 ?_
                refine lv_istore (lv' := [(4, .int (y3 - (1 : Int32))), (0, .ref o), (1, .long y1), (3, .int y3)]) hx hb dX4_put_81 hl (by decide) rfl (fun ls hl => ?_)
                obtain ⟨v26, h27, h⟩ := bE h
                refine k_X4_put_L83 (v := v26) o b y1 hA C0 hK (fun H locs ls hP hD hS hl => ?_) 2000 z0 (y3 - (1 : Int32)) _ _ _ hP hD hS (lv_sub hl [1, 2, 0] rfl) h27
                refine lv_aload_n hx hb dX4_put_119 rfl (lv_at hl 0 rfl) ?_
                refine va_get (D := D) (v := .int v26.2.2.2.2.2.2.2.1) (C := RX4) (T := TX4) (N := 10) hx hb hts iw_X4 hown hK hP 0 rfl rfl 7 (by decide) (hts _ mw_576) (fun _ h9 => h9) rfl dX4_put_120 ?_
                cases h
                exact x_retM C0 rfl hP hD hS dX4_put_123
              · have h := xf c25 h
                refine lv_bipush (v := (-4)) hx hb dX4_put_75 (by decide) ?_
                cases h
                exact x_retM C0 rfl hP hD hS dX4_put_77
            · have h := xf c24 h
              refine lv_bipush (v := (-2)) hx hb dX4_put_61 (by decide) ?_
              cases h
              exact x_retM C0 rfl hP hD hS dX4_put_63
      · have h := xf c18 h
        refine lv_lload_n hx hb dX4_put_16 rfl (lv_at hl 1 rfl) ?_
        refine lv_iload_n hx hb dX4_put_17 rfl (lv_at hl 2 rfl) ?_
        obtain ⟨x28, h29, h⟩ := bE h
        refine x_RS (As := [.long y1, .int y3]) (rest := []) hF (c_X4_code l D cI cZ cT  y1 y3 x28 h29) (va_cwS 2 hts (gqS mw_590 mw_591 mw_428 mw_587) rfl rfl rfl hd_X4_code.2 ⟨Nat.le_of_ble_eq_true rfl, Nat.le_of_ble_eq_true rfl⟩) hK hP q_T_bl (fun _ _ _ => trivial) [] rfl rfl hl.1 rfl (Nat.le_of_ble_eq_true rfl) dX4_put_18 ⟨Nat.zero_le _, Nat.zero_le _⟩ ?_
        refine lv_bipush (v := 33) hx hb dX4_put_21 (by decide) ?_
        refine lv_bipush (v := 126) hx hb dX4_put_23 (by decide) ?_
        obtain ⟨x30, h31, h⟩ := bE h
        refine x_RS (As := [.int x28, .int (33 : Int32), .int (126 : Int32)]) (rest := []) hF (c_X4_in l D cI cZ cT  x28 (33 : Int32) (126 : Int32) x30 h31) (va_cwS 3 hts (gqS mw_426 mw_427 mw_428 mw_421) rfl rfl rfl hd_X4_in.2 ⟨Nat.le_of_ble_eq_true rfl, Nat.le_of_ble_eq_true rfl⟩) hK hP q_T_bl (fun _ _ _ => trivial) [] rfl rfl hl.1 rfl (Nat.le_of_ble_eq_true rfl) dX4_put_25 ⟨Nat.zero_le _, Nat.zero_le _⟩ ?_
        refine lv_if_ne (tgt := 34) hx hb dX4_put_28 (by decide) (fun c32 => ?_) (fun c32 => ?_)
        · have h := xf c32 h
          refine lv_iinc (v := (y3 + (1 : Int32))) (lv' := [(3, .int (y3 + (1 : Int32))), (0, .ref o), (1, .long y1)]) hx hb dX4_put_34 hl (k := 2) rfl rfl (by decide) rfl (fun ls hl => ?_)
          refine lv_goto (tgt := 2) hx hb dX4_put_37 (by decide) ?_
          exact ih (y3 + (1 : Int32)) _ (lv_sub hl [1, 2, 0] rfl) h
        · have h := xt c32 h
          refine lv_bipush (v := (-2)) hx hb dX4_put_31 (by decide) ?_
          cases h
          exact x_retM C0 rfl hP hD hS dX4_put_33
set_option maxHeartbeats 4000000 in
set_option maxRecDepth 100000 in
theorem c_X4_put (l : Launch) (D : va_G) (cI cZ cT : ClassId) (sz : Nat) (o : Nat) (b : Nat → Nat) (t : MM) (a1 : Int64) (r : Int32 × MM) (h : f_X4_put t a1 = some r) : Met l yX4_put (wq yX4_put cX4_put 5 (some .int)) rm_X4_put (q_M D (q_tys cI cZ cT) sz (wM cI cZ o b t) q_T [.ref o, .long a1]) (va_Qi (fun r' _ => r' = r.1) (q_B D (wM cI cZ o b t) sz (wM cI cZ o b r.2)) (va_A (wM cI cZ o b t) sz)) 0 0 (va_A (wM cI cZ o b t) sz) := by
  refine q_MI (cc := cX4_put) (maxL := 5) (ret := (some .int)) (E := fun sz => q_T) (Qc := fun sz => (va_Qi (fun r' _ => r' = r.1) (q_B D (wM cI cZ o b t) sz (wM cI cZ o b r.2)) (va_A (wM cI cZ o b t) sz))) (free := fun sz => va_A (wM cI cZ o b t) sz) (plainFor_of_name (by decide)) (Nat.le_of_ble_eq_true rfl) (fun p e s m below meth c C0 hname hP hK hD hE ls hl => ?_)
  have hA : ∀ q, s.heap.size ≤ q → (va_A (wM cI cZ o b t) s.heap.size) q := fun _ => Or.inr
  have hS : va_S (va_A (wM cI cZ o b t) s.heap.size) s.heap s.heap [] := va_S.rf
  have hl : lv_has ls 5 [(0, .ref o), (1, .long a1)] := hl
  obtain ⟨hx, hb, hr, hml, hown, hts, hlocks⟩ := id C0
  have hF : CallFix p m c cX4_put 5 s _ BW RX4 := ⟨hx, hb, hml, hown, hts⟩
  rw [f_X4_put] at h
  refine lv_iconst (v := 0) hx hb dX4_put_0 (by decide) ?_
  refine lv_istore_n (lv' := [(3, .int (0 : Int32)), (0, .ref o), (1, .long a1)]) hx hb dX4_put_1 rfl hl (by decide) rfl (fun ls hl => ?_)
  exact k_X4_put_L2 o b t a1 t hA hP hD hS C0 hK 2000 (0 : Int32) _ (lv_sub hl [1, 2, 0] rfl) h

/-! QuarrelWaysModel.wipe ()I -/
def f_X4_wipe (t : MM) : Option (Int32 × MM) := some (t.2.2.2.2.2.2.2.1, (M7 t (0 : Int32)))
abbrev rm_X4_wipe : Room := { frames := 0, cells := 0, slots := 0, locals := 0 }
theorem hd_X4_wipe : yX4_wipe.cls = RX4 ∧ yX4_wipe.cls ≠ "java/lang/invoke/MethodHandle" ∧ yX4_wipe.cls ≠ "java/lang/invoke/VarHandle" ∧ (parseMethodDescriptor yX4_wipe.desc).map (fun d => d.parameters.length) = some 0 := by decide +kernel
set_option maxHeartbeats 4000000 in
set_option maxRecDepth 100000 in
theorem c_X4_wipe (l : Launch) (D : va_G) (cI cZ cT : ClassId) (sz : Nat) (o : Nat) (b : Nat → Nat) (t : MM) (r : Int32 × MM) (h : f_X4_wipe t = some r) : Met l yX4_wipe (wq yX4_wipe cX4_wipe 2 (some .int)) rm_X4_wipe (q_M D (q_tys cI cZ cT) sz (wM cI cZ o b t) q_T [.ref o]) (va_Qi (fun r' _ => r' = r.1) (q_B D (wM cI cZ o b t) sz (wM cI cZ o b r.2)) (va_A (wM cI cZ o b t) sz)) 0 0 (va_A (wM cI cZ o b t) sz) := by
  refine q_MI (cc := cX4_wipe) (maxL := 2) (ret := (some .int)) (E := fun sz => q_T) (Qc := fun sz => (va_Qi (fun r' _ => r' = r.1) (q_B D (wM cI cZ o b t) sz (wM cI cZ o b r.2)) (va_A (wM cI cZ o b t) sz))) (free := fun sz => va_A (wM cI cZ o b t) sz) (plainFor_of_name (by decide)) (Nat.le_of_ble_eq_true rfl) (fun p e s m below meth c C0 hname hP hK hD hE ls hl => ?_)
  have hA : ∀ q, s.heap.size ≤ q → (va_A (wM cI cZ o b t) s.heap.size) q := fun _ => Or.inr
  have hS : va_S (va_A (wM cI cZ o b t) s.heap.size) s.heap s.heap [] := va_S.rf
  have hl : lv_has ls 2 [(0, .ref o)] := hl
  obtain ⟨hx, hb, hr, hml, hown, hts, hlocks⟩ := id C0
  have hF : CallFix p m c cX4_wipe 2 s _ BW RX4 := ⟨hx, hb, hml, hown, hts⟩
  rw [f_X4_wipe] at h
  refine lv_aload_n hx hb dX4_wipe_0 rfl (lv_at hl 0 rfl) ?_
  refine va_get (D := D) (v := .int t.2.2.2.2.2.2.2.1) (C := RX4) (T := TX4) (N := 10) hx hb hts iw_X4 hown hK hP 0 rfl rfl 7 (by decide) (hts _ mw_576) (fun _ h9 => h9) rfl dX4_wipe_1 ?_
  refine lv_istore_n (lv' := [(1, .int t.2.2.2.2.2.2.2.1), (0, .ref o)]) hx hb dX4_wipe_4 rfl hl (by decide) rfl (fun ls hl => ?_)
  refine lv_aload_n hx hb dX4_wipe_5 rfl (lv_at hl 1 rfl) ?_
  refine lv_iconst (v := 0) hx hb dX4_wipe_6 (by decide) ?_
  refine va_put (D := D) (v := .int (0 : Int32)) (ty := .int) (C := RX4) (T := TX4) (N := 10) hx hb hts iw_X4 tyX4 tyX4_ok nmX4 hown hK hP hD hS 0 rfl rfl 7 (by decide) (hts _ mw_576) (fun _ h9 => h9) rfl (by decide +kernel) rfl rfl (Nat.le_of_ble_eq_true rfl) dX4_wipe_7 (fun H locs hP hD hS => ?_)
  have hP : va_P D vwCl (wM cI cZ o b (M7 t (0 : Int32))) H := hP
  have hD : va_D (va_A (wM cI cZ o b t) s.heap.size) (wM cI cZ o b (M7 t (0 : Int32))) := hD
  refine lv_iload_n hx hb dX4_wipe_10 rfl (lv_at hl 0 rfl) ?_
  cases h
  exact x_retM C0 rfl hP hD hS dX4_wipe_11

/-! QuarrelWaysModel.undo ()I -/
def f_X4_undo_L22 : Nat → MM → Int32 → Option (MM)
  | 0, _, _ => none
  | n + 1, z0, y1 => (if (181 : Int32) ≤ y1 then some z0 else ((rd z0.2.2.1 1086 (((181 : Int32) * z0.2.2.2.1) + y1)).bind fun x3 => ((wr z0.1 181 y1 x3).bind fun g5 => f_X4_undo_L22 n (M0 z0 g5) (y1 + (1 : Int32)))))
def f_X4_undo (t : MM) : Option (Int32 × MM) := (if t.2.2.2.1 = 0 then some ((-5 : Int32), t) else ((f_X4_undo_L22 2000 (M3 t (t.2.2.2.1 - (1 : Int32))) (0 : Int32)).bind fun v7 => some (v7.2.2.2.1, v7)))
abbrev rm_X4_undo : Room := { frames := 0, cells := 0, slots := 0, locals := 0 }
theorem hd_X4_undo : yX4_undo.cls = RX4 ∧ yX4_undo.cls ≠ "java/lang/invoke/MethodHandle" ∧ yX4_undo.cls ≠ "java/lang/invoke/VarHandle" ∧ (parseMethodDescriptor yX4_undo.desc).map (fun d => d.parameters.length) = some 0 := by decide +kernel
set_option maxHeartbeats 4000000 in
set_option maxRecDepth 100000 in
theorem k_X4_undo_L22 {Q : State → Prop} {v : MM} (o : Nat) (b : Nat → Nat) {A : Nat → Prop} (hA : ∀ q, s.heap.size ≤ q → A q) (C0 : q_At p s m args meth c cX4_undo 2 (some .int) RX4) (hK : va_K D vwCl (q_tys cI cZ cT) s) (hj : ∀ (H : Heap) (locs : List Loc) (ls : Array Slot), va_P D vwCl (wM cI cZ o b v) H → va_D A (wM cI cZ o b v) → va_S A s.heap H locs → lv_has ls 2 [(0, .ref o)] → W p l e rm_X4_undo s m args below meth c H locs 0 0 Q (F0 m 56 ls [])) : ∀ (n : Nat) (z0 : MM) (y1 : Int32) (H : Heap) (locs : List Loc) (ls : Array Slot), va_P D vwCl (wM cI cZ o b z0) H → va_D A (wM cI cZ o b z0) → va_S A s.heap H locs → lv_has ls 2 [(0, .ref o), (1, .int y1)] → f_X4_undo_L22 n z0 y1 = some v → W p l e rm_X4_undo s m args below meth c H locs 0 0 (Q) (F0 m 22 ls []) := by
  obtain ⟨hx, hb, hr, hml, hown, hts, hlocks⟩ := id C0
  have hF : CallFix p m c cX4_undo 2 s args BW RX4 := ⟨hx, hb, hml, hown, hts⟩
  intro n
  induction n with
  | zero =>
    intro z0 y1 H locs ls hP hD hS hl h
    rw [f_X4_undo_L22] at h
    cases h
  | succ n ih =>
    intro z0 y1 H locs ls hP hD hS hl h
    rw [f_X4_undo_L22] at h
    refine lv_iload_n hx hb dX4_undo_22 rfl (lv_at hl 1 rfl) ?_
    refine lv_sipush (v := 181) hx hb dX4_undo_23 (by decide) ?_
    refine lv_icmp_ge (tgt := 56) hx hb dX4_undo_26 (by decide) (fun c2 => ?_) (fun c2 => ?_)
    · have h := xt c2 h
      cases h
      exact hj _ _ _ hP hD hS (lv_sub hl [0] rfl)
    · have h := xf c2 h
      refine lv_aload_n hx hb dX4_undo_29 rfl (lv_at hl 0 rfl) ?_
      refine va_get (D := D) (v := .ref (b 0)) (C := RX4) (T := TX4) (N := 10) hx hb hts iw_X4 hown hK hP 0 rfl rfl 0 (by decide) (hts _ mw_414) (fun _ h9 => h9) rfl dX4_undo_30 ?_
      refine lv_iload_n hx hb dX4_undo_33 rfl (lv_at hl 1 rfl) ?_
      refine lv_aload_n hx hb dX4_undo_34 rfl (lv_at hl 0 rfl) ?_
      refine va_get (D := D) (v := .ref (b 2)) (C := RX4) (T := TX4) (N := 10) hx hb hts iw_X4 hown hK hP 0 rfl rfl 2 (by decide) (hts _ mw_416) (fun _ h9 => h9) rfl dX4_undo_35 ?_
      refine lv_sipush (v := 181) hx hb dX4_undo_38 (by decide) ?_
      refine lv_aload_n hx hb dX4_undo_41 rfl (lv_at hl 0 rfl) ?_
      refine va_get (D := D) (v := .int z0.2.2.2.1) (C := RX4) (T := TX4) (N := 10) hx hb hts iw_X4 hown hK hP 0 rfl rfl 3 (by decide) (hts _ mw_424) (fun _ h9 => h9) rfl dX4_undo_42 ?_
      refine lv_imul hx hb dX4_undo_45 ?_
      refine lv_iload_n hx hb dX4_undo_46 rfl (lv_at hl 1 rfl) ?_
      refine lv_iadd hx hb dX4_undo_47 ?_
      obtain ⟨x3, h4, h⟩ := bE h
      refine x_iald (cA := cI) hx hb hK hP 3 0 rfl rfl h4 dX4_undo_48 ?_
      obtain ⟨g5, h6, h⟩ := bE h
      refine x_iast (cA := cI) hx hb hK hP hD hS 1 0 rfl rfl h6 dX4_undo_49 (fun H locs hP hD hS => ?_)
      have hP : va_P D vwCl (wM cI cZ o b (M0 z0 g5)) H := hP
      have hD : va_D A (wM cI cZ o b (M0 z0 g5)) := hD
      refine lv_iinc (v := (y1 + (1 : Int32))) (lv' := [(1, .int (y1 + (1 : Int32))), (0, .ref o)]) hx hb dX4_undo_50 hl (k := 1) rfl rfl (by decide) rfl (fun ls hl => ?_)
      refine lv_goto (tgt := 22) hx hb dX4_undo_53 (by decide) ?_
      exact ih (M0 z0 g5) (y1 + (1 : Int32)) _ _ _ hP hD hS (lv_sub hl [1, 0] rfl) h
set_option maxHeartbeats 4000000 in
set_option maxRecDepth 100000 in
theorem c_X4_undo (l : Launch) (D : va_G) (cI cZ cT : ClassId) (sz : Nat) (o : Nat) (b : Nat → Nat) (t : MM) (r : Int32 × MM) (h : f_X4_undo t = some r) : Met l yX4_undo (wq yX4_undo cX4_undo 2 (some .int)) rm_X4_undo (q_M D (q_tys cI cZ cT) sz (wM cI cZ o b t) q_T [.ref o]) (va_Qi (fun r' _ => r' = r.1) (q_B D (wM cI cZ o b t) sz (wM cI cZ o b r.2)) (va_A (wM cI cZ o b t) sz)) 0 0 (va_A (wM cI cZ o b t) sz) := by
  refine q_MI (cc := cX4_undo) (maxL := 2) (ret := (some .int)) (E := fun sz => q_T) (Qc := fun sz => (va_Qi (fun r' _ => r' = r.1) (q_B D (wM cI cZ o b t) sz (wM cI cZ o b r.2)) (va_A (wM cI cZ o b t) sz))) (free := fun sz => va_A (wM cI cZ o b t) sz) (plainFor_of_name (by decide)) (Nat.le_of_ble_eq_true rfl) (fun p e s m below meth c C0 hname hP hK hD hE ls hl => ?_)
  have hA : ∀ q, s.heap.size ≤ q → (va_A (wM cI cZ o b t) s.heap.size) q := fun _ => Or.inr
  have hS : va_S (va_A (wM cI cZ o b t) s.heap.size) s.heap s.heap [] := va_S.rf
  have hl : lv_has ls 2 [(0, .ref o)] := hl
  obtain ⟨hx, hb, hr, hml, hown, hts, hlocks⟩ := id C0
  have hF : CallFix p m c cX4_undo 2 s _ BW RX4 := ⟨hx, hb, hml, hown, hts⟩
  rw [f_X4_undo] at h
  refine lv_aload_n hx hb dX4_undo_0 rfl (lv_at hl 0 rfl) ?_
  refine va_get (D := D) (v := .int t.2.2.2.1) (C := RX4) (T := TX4) (N := 10) hx hb hts iw_X4 hown hK hP 0 rfl rfl 3 (by decide) (hts _ mw_424) (fun _ h9 => h9) rfl dX4_undo_1 ?_
  refine lv_if_ne (tgt := 10) hx hb dX4_undo_4 (by decide) (fun c1 => ?_) (fun c1 => ?_)
  · have h := xf c1 h
    refine lv_aload_n hx hb dX4_undo_10 rfl (lv_at hl 0 rfl) ?_
    refine lv_dup hx hb dX4_undo_11 rfl ?_
    refine va_get (D := D) (v := .int t.2.2.2.1) (C := RX4) (T := TX4) (N := 10) hx hb hts iw_X4 hown hK hP 0 rfl rfl 3 (by decide) (hts _ mw_424) (fun _ h9 => h9) rfl dX4_undo_12 ?_
    refine lv_iconst (v := 1) hx hb dX4_undo_15 (by decide) ?_
    refine lv_isub hx hb dX4_undo_16 ?_
    refine va_put (D := D) (v := .int (t.2.2.2.1 - (1 : Int32))) (ty := .int) (C := RX4) (T := TX4) (N := 10) hx hb hts iw_X4 tyX4 tyX4_ok nmX4 hown hK hP hD hS 0 rfl rfl 3 (by decide) (hts _ mw_424) (fun _ h9 => h9) rfl (by decide +kernel) rfl rfl (Nat.le_of_ble_eq_true rfl) dX4_undo_17 (fun H locs hP hD hS => ?_)
    have hP : va_P D vwCl (wM cI cZ o b (M3 t (t.2.2.2.1 - (1 : Int32)))) H := hP
    have hD : va_D (va_A (wM cI cZ o b t) s.heap.size) (wM cI cZ o b (M3 t (t.2.2.2.1 - (1 : Int32)))) := hD
    refine lv_iconst (v := 0) hx hb dX4_undo_20 (by decide) ?_
    refine lv_istore_n (lv' := [(1, .int (0 : Int32)), (0, .ref o)]) hx hb dX4_undo_21 rfl hl (by decide) rfl (fun ls hl => ?_)
    obtain ⟨v7, h8, h⟩ := bE h
    refine k_X4_undo_L22 (v := v7) o b hA C0 hK (fun H locs ls hP hD hS hl => ?_) 2000 (M3 t (t.2.2.2.1 - (1 : Int32))) (0 : Int32) _ _ _ hP hD hS (lv_sub hl [1, 0] rfl) h8
    refine lv_aload_n hx hb dX4_undo_56 rfl (lv_at hl 0 rfl) ?_
    refine va_get (D := D) (v := .int v7.2.2.2.1) (C := RX4) (T := TX4) (N := 10) hx hb hts iw_X4 hown hK hP 0 rfl rfl 3 (by decide) (hts _ mw_424) (fun _ h9 => h9) rfl dX4_undo_57 ?_
    cases h
    exact x_retM C0 rfl hP hD hS dX4_undo_60
  · have h := xt c1 h
    refine lv_bipush (v := (-5)) hx hb dX4_undo_7 (by decide) ?_
    cases h
    exact x_retM C0 rfl hP hD hS dX4_undo_9

/-! QuarrelWaysModel.save (I)I -/
def f_X4_save_L14 (y1 : Int32) : Nat → MM → Int32 → Option (MM)
  | 0, _, _ => none
  | n + 1, z0, y2 => (if (181 : Int32) ≤ y2 then some z0 else ((rd z0.1 181 y2).bind fun x5 => ((wr z0.2.2.2.2.1 362 (((181 : Int32) * y1) + y2) x5).bind fun g7 => f_X4_save_L14 y1 n (M4 z0 g7) (y2 + (1 : Int32)))))
def f_X4_save (t : MM) (a1 : Int32) : Option (Int32 × MM) := ((f_X4_in a1 (0 : Int32) (1 : Int32)).bind fun x1 => (if x1 = 0 then some ((-2 : Int32), t) else ((f_X4_save_L14 a1 2000 t (0 : Int32)).bind fun v9 => ((wrz v9.2.2.2.2.2.1 2 a1 (1 : Int32)).bind fun g11 => ((rd ((M5 v9 g11).1) 181 (47 : Int32)).bind fun x13 => some (x13, (M5 v9 g11)))))))
abbrev rm_X4_save : Room := { frames := 1, cells := 0, slots := 0, locals := 22 }
theorem hd_X4_save : yX4_save.cls = RX4 ∧ yX4_save.cls ≠ "java/lang/invoke/MethodHandle" ∧ yX4_save.cls ≠ "java/lang/invoke/VarHandle" ∧ (parseMethodDescriptor yX4_save.desc).map (fun d => d.parameters.length) = some 1 := by decide +kernel
set_option maxHeartbeats 4000000 in
set_option maxRecDepth 100000 in
theorem k_X4_save_L14 {Q : State → Prop} {v : MM} (o : Nat) (b : Nat → Nat) (y1 : Int32) {A : Nat → Prop} (hA : ∀ q, s.heap.size ≤ q → A q) (C0 : q_At p s m args meth c cX4_save 3 (some .int) RX4) (hK : va_K D vwCl (q_tys cI cZ cT) s) (hj : ∀ (H : Heap) (locs : List Loc) (ls : Array Slot), va_P D vwCl (wM cI cZ o b v) H → va_D A (wM cI cZ o b v) → va_S A s.heap H locs → lv_has ls 3 [(0, .ref o), (1, .int y1)] → W p l e rm_X4_save s m args below meth c H locs 0 0 Q (F0 m 45 ls [])) : ∀ (n : Nat) (z0 : MM) (y2 : Int32) (H : Heap) (locs : List Loc) (ls : Array Slot), va_P D vwCl (wM cI cZ o b z0) H → va_D A (wM cI cZ o b z0) → va_S A s.heap H locs → lv_has ls 3 [(0, .ref o), (1, .int y1), (2, .int y2)] → f_X4_save_L14 y1 n z0 y2 = some v → W p l e rm_X4_save s m args below meth c H locs 0 0 (Q) (F0 m 14 ls []) := by
  obtain ⟨hx, hb, hr, hml, hown, hts, hlocks⟩ := id C0
  have hF : CallFix p m c cX4_save 3 s args BW RX4 := ⟨hx, hb, hml, hown, hts⟩
  intro n
  induction n with
  | zero =>
    intro z0 y2 H locs ls hP hD hS hl h
    rw [f_X4_save_L14] at h
    cases h
  | succ n ih =>
    intro z0 y2 H locs ls hP hD hS hl h
    rw [f_X4_save_L14] at h
    refine lv_iload_n hx hb dX4_save_14 rfl (lv_at hl 2 rfl) ?_
    refine lv_sipush (v := 181) hx hb dX4_save_15 (by decide) ?_
    refine lv_icmp_ge (tgt := 45) hx hb dX4_save_18 (by decide) (fun c4 => ?_) (fun c4 => ?_)
    · have h := xt c4 h
      cases h
      exact hj _ _ _ hP hD hS (lv_sub hl [0, 1] rfl)
    · have h := xf c4 h
      refine lv_aload_n hx hb dX4_save_21 rfl (lv_at hl 0 rfl) ?_
      refine va_get (D := D) (v := .ref (b 4)) (C := RX4) (T := TX4) (N := 10) hx hb hts iw_X4 hown hK hP 0 rfl rfl 4 (by decide) (hts _ mw_417) (fun _ h9 => h9) rfl dX4_save_22 ?_
      refine lv_sipush (v := 181) hx hb dX4_save_25 (by decide) ?_
      refine lv_iload_n hx hb dX4_save_28 rfl (lv_at hl 1 rfl) ?_
      refine lv_imul hx hb dX4_save_29 ?_
      refine lv_iload_n hx hb dX4_save_30 rfl (lv_at hl 2 rfl) ?_
      refine lv_iadd hx hb dX4_save_31 ?_
      refine lv_aload_n hx hb dX4_save_32 rfl (lv_at hl 0 rfl) ?_
      refine va_get (D := D) (v := .ref (b 0)) (C := RX4) (T := TX4) (N := 10) hx hb hts iw_X4 hown hK hP 0 rfl rfl 0 (by decide) (hts _ mw_414) (fun _ h9 => h9) rfl dX4_save_33 ?_
      refine lv_iload_n hx hb dX4_save_36 rfl (lv_at hl 2 rfl) ?_
      obtain ⟨x5, h6, h⟩ := bE h
      refine x_iald (cA := cI) hx hb hK hP 1 0 rfl rfl h6 dX4_save_37 ?_
      obtain ⟨g7, h8, h⟩ := bE h
      refine x_iast (cA := cI) hx hb hK hP hD hS 4 0 rfl rfl h8 dX4_save_38 (fun H locs hP hD hS => ?_)
      have hP : va_P D vwCl (wM cI cZ o b (M4 z0 g7)) H := hP
      have hD : va_D A (wM cI cZ o b (M4 z0 g7)) := hD
      refine lv_iinc (v := (y2 + (1 : Int32))) (lv' := [(2, .int (y2 + (1 : Int32))), (0, .ref o), (1, .int y1)]) hx hb dX4_save_39 hl (k := 2) rfl rfl (by decide) rfl (fun ls hl => ?_)
      refine lv_goto (tgt := 14) hx hb dX4_save_42 (by decide) ?_
      exact ih (M4 z0 g7) (y2 + (1 : Int32)) _ _ _ hP hD hS (lv_sub hl [1, 2, 0] rfl) h
set_option maxHeartbeats 4000000 in
set_option maxRecDepth 100000 in
theorem c_X4_save (l : Launch) (D : va_G) (cI cZ cT : ClassId) (sz : Nat) (o : Nat) (b : Nat → Nat) (t : MM) (a1 : Int32) (r : Int32 × MM) (h : f_X4_save t a1 = some r) : Met l yX4_save (wq yX4_save cX4_save 3 (some .int)) rm_X4_save (q_M D (q_tys cI cZ cT) sz (wM cI cZ o b t) q_T [.ref o, .int a1]) (va_Qi (fun r' _ => r' = r.1) (q_B D (wM cI cZ o b t) sz (wM cI cZ o b r.2)) (va_A (wM cI cZ o b t) sz)) 0 0 (va_A (wM cI cZ o b t) sz) := by
  refine q_MI (cc := cX4_save) (maxL := 3) (ret := (some .int)) (E := fun sz => q_T) (Qc := fun sz => (va_Qi (fun r' _ => r' = r.1) (q_B D (wM cI cZ o b t) sz (wM cI cZ o b r.2)) (va_A (wM cI cZ o b t) sz))) (free := fun sz => va_A (wM cI cZ o b t) sz) (plainFor_of_name (by decide)) (Nat.le_of_ble_eq_true rfl) (fun p e s m below meth c C0 hname hP hK hD hE ls hl => ?_)
  have hA : ∀ q, s.heap.size ≤ q → (va_A (wM cI cZ o b t) s.heap.size) q := fun _ => Or.inr
  have hS : va_S (va_A (wM cI cZ o b t) s.heap.size) s.heap s.heap [] := va_S.rf
  have hl : lv_has ls 3 [(0, .ref o), (1, .int a1)] := hl
  obtain ⟨hx, hb, hr, hml, hown, hts, hlocks⟩ := id C0
  have hF : CallFix p m c cX4_save 3 s _ BW RX4 := ⟨hx, hb, hml, hown, hts⟩
  rw [f_X4_save] at h
  refine lv_iload_n hx hb dX4_save_0 rfl (lv_at hl 1 rfl) ?_
  refine lv_iconst (v := 0) hx hb dX4_save_1 (by decide) ?_
  refine lv_iconst (v := 1) hx hb dX4_save_2 (by decide) ?_
  obtain ⟨x1, h2, h⟩ := bE h
  refine x_RS (As := [.int a1, .int (0 : Int32), .int (1 : Int32)]) (rest := []) hF (c_X4_in l D cI cZ cT  a1 (0 : Int32) (1 : Int32) x1 h2) (va_cwS 3 hts (gqS mw_426 mw_427 mw_428 mw_421) rfl rfl rfl hd_X4_in.2 ⟨Nat.le_of_ble_eq_true rfl, Nat.le_of_ble_eq_true rfl⟩) hK hP q_T_bl (fun _ _ _ => trivial) [] rfl rfl hl.1 rfl (Nat.le_of_ble_eq_true rfl) dX4_save_3 ⟨Nat.zero_le _, Nat.zero_le _⟩ ?_
  refine lv_if_ne (tgt := 12) hx hb dX4_save_6 (by decide) (fun c3 => ?_) (fun c3 => ?_)
  · have h := xf c3 h
    refine lv_iconst (v := 0) hx hb dX4_save_12 (by decide) ?_
    refine lv_istore_n (lv' := [(2, .int (0 : Int32)), (0, .ref o), (1, .int a1)]) hx hb dX4_save_13 rfl hl (by decide) rfl (fun ls hl => ?_)
    obtain ⟨v9, h10, h⟩ := bE h
    refine k_X4_save_L14 (v := v9) o b a1 hA C0 hK (fun H locs ls hP hD hS hl => ?_) 2000 t (0 : Int32) _ _ _ hP hD hS (lv_sub hl [1, 2, 0] rfl) h10
    refine lv_aload_n hx hb dX4_save_45 rfl (lv_at hl 0 rfl) ?_
    refine va_get (D := D) (v := .ref (b 5)) (C := RX4) (T := TX4) (N := 10) hx hb hts iw_X4 hown hK hP 0 rfl rfl 5 (by decide) (hts _ mw_419) (fun _ h9 => h9) rfl dX4_save_46 ?_
    refine lv_iload_n hx hb dX4_save_49 rfl (lv_at hl 1 rfl) ?_
    refine lv_iconst (v := 1) hx hb dX4_save_50 (by decide) ?_
    obtain ⟨g11, h12, h⟩ := bE h
    refine x_zast (cA := cZ) hx hb hK hP hD hS 5 1 rfl rfl h12 dX4_save_51 (fun H locs hP hD hS => ?_)
    have hP : va_P D vwCl (wM cI cZ o b (M5 v9 g11)) H := hP
    have hD : va_D (va_A (wM cI cZ o b t) s.heap.size) (wM cI cZ o b (M5 v9 g11)) := hD
    refine lv_aload_n hx hb dX4_save_52 rfl (lv_at hl 0 rfl) ?_
    refine va_get (D := D) (v := .ref (b 0)) (C := RX4) (T := TX4) (N := 10) hx hb hts iw_X4 hown hK hP 0 rfl rfl 0 (by decide) (hts _ mw_414) (fun _ h9 => h9) rfl dX4_save_53 ?_
    refine lv_bipush (v := 47) hx hb dX4_save_56 (by decide) ?_
    obtain ⟨x13, h14, h⟩ := bE h
    refine x_iald (cA := cI) hx hb hK hP 1 0 rfl rfl h14 dX4_save_58 ?_
    cases h
    exact x_retM C0 rfl hP hD hS dX4_save_59
  · have h := xt c3 h
    refine lv_bipush (v := (-2)) hx hb dX4_save_9 (by decide) ?_
    cases h
    exact x_retM C0 rfl hP hD hS dX4_save_11

/-! QuarrelWaysModel.restore (I)I -/
def f_X4_restore_L30 (y1 : Int32) : Nat → MM → Int32 → Option (MM)
  | 0, _, _ => none
  | n + 1, z0, y2 => (if (181 : Int32) ≤ y2 then some z0 else ((rd z0.2.2.2.2.1 362 (((181 : Int32) * y1) + y2)).bind fun x10 => ((wr z0.1 181 y2 x10).bind fun g12 => f_X4_restore_L30 y1 n (M0 z0 g12) (y2 + (1 : Int32)))))
def f_X4_restore (t : MM) (a1 : Int32) : Option (Int32 × MM) := ((f_X4_in a1 (0 : Int32) (1 : Int32)).bind fun x1 => (if x1 = 0 then some ((-2 : Int32), t) else ((rd t.2.2.2.2.2.1 2 a1).bind fun x4 => (if x4 = 0 then some ((-5 : Int32), t) else ((f_X4_putAside t).bind fun x7 => ((f_X4_restore_L30 a1 2000 x7 (0 : Int32)).bind fun v14 => ((rd v14.1 181 (47 : Int32)).bind fun x16 => ((f_X4_end v14 x16).bind fun x18 => some (x18.1, x18.2)))))))))
abbrev rm_X4_restore : Room := { frames := 1, cells := 0, slots := 0, locals := 22 }
theorem hd_X4_restore : yX4_restore.cls = RX4 ∧ yX4_restore.cls ≠ "java/lang/invoke/MethodHandle" ∧ yX4_restore.cls ≠ "java/lang/invoke/VarHandle" ∧ (parseMethodDescriptor yX4_restore.desc).map (fun d => d.parameters.length) = some 1 := by decide +kernel
set_option maxHeartbeats 4000000 in
set_option maxRecDepth 100000 in
theorem k_X4_restore_L30 {Q : State → Prop} {v : MM} (o : Nat) (b : Nat → Nat) (y1 : Int32) {A : Nat → Prop} (hA : ∀ q, s.heap.size ≤ q → A q) (C0 : q_At p s m args meth c cX4_restore 3 (some .int) RX4) (hK : va_K D vwCl (q_tys cI cZ cT) s) (hj : ∀ (H : Heap) (locs : List Loc) (ls : Array Slot), va_P D vwCl (wM cI cZ o b v) H → va_D A (wM cI cZ o b v) → va_S A s.heap H locs → lv_has ls 3 [(0, .ref o)] → W p l e rm_X4_restore s m args below meth c H locs 0 0 Q (F0 m 61 ls [])) : ∀ (n : Nat) (z0 : MM) (y2 : Int32) (H : Heap) (locs : List Loc) (ls : Array Slot), va_P D vwCl (wM cI cZ o b z0) H → va_D A (wM cI cZ o b z0) → va_S A s.heap H locs → lv_has ls 3 [(0, .ref o), (1, .int y1), (2, .int y2)] → f_X4_restore_L30 y1 n z0 y2 = some v → W p l e rm_X4_restore s m args below meth c H locs 0 0 (Q) (F0 m 30 ls []) := by
  obtain ⟨hx, hb, hr, hml, hown, hts, hlocks⟩ := id C0
  have hF : CallFix p m c cX4_restore 3 s args BW RX4 := ⟨hx, hb, hml, hown, hts⟩
  intro n
  induction n with
  | zero =>
    intro z0 y2 H locs ls hP hD hS hl h
    rw [f_X4_restore_L30] at h
    cases h
  | succ n ih =>
    intro z0 y2 H locs ls hP hD hS hl h
    rw [f_X4_restore_L30] at h
    refine lv_iload_n hx hb dX4_restore_30 rfl (lv_at hl 2 rfl) ?_
    refine lv_sipush (v := 181) hx hb dX4_restore_31 (by decide) ?_
    refine lv_icmp_ge (tgt := 61) hx hb dX4_restore_34 (by decide) (fun c9 => ?_) (fun c9 => ?_)
    · have h := xt c9 h
      cases h
      exact hj _ _ _ hP hD hS (lv_sub hl [0] rfl)
    · have h := xf c9 h
      refine lv_aload_n hx hb dX4_restore_37 rfl (lv_at hl 0 rfl) ?_
      refine va_get (D := D) (v := .ref (b 0)) (C := RX4) (T := TX4) (N := 10) hx hb hts iw_X4 hown hK hP 0 rfl rfl 0 (by decide) (hts _ mw_414) (fun _ h9 => h9) rfl dX4_restore_38 ?_
      refine lv_iload_n hx hb dX4_restore_41 rfl (lv_at hl 2 rfl) ?_
      refine lv_aload_n hx hb dX4_restore_42 rfl (lv_at hl 0 rfl) ?_
      refine va_get (D := D) (v := .ref (b 4)) (C := RX4) (T := TX4) (N := 10) hx hb hts iw_X4 hown hK hP 0 rfl rfl 4 (by decide) (hts _ mw_417) (fun _ h9 => h9) rfl dX4_restore_43 ?_
      refine lv_sipush (v := 181) hx hb dX4_restore_46 (by decide) ?_
      refine lv_iload_n hx hb dX4_restore_49 rfl (lv_at hl 1 rfl) ?_
      refine lv_imul hx hb dX4_restore_50 ?_
      refine lv_iload_n hx hb dX4_restore_51 rfl (lv_at hl 2 rfl) ?_
      refine lv_iadd hx hb dX4_restore_52 ?_
      obtain ⟨x10, h11, h⟩ := bE h
      refine x_iald (cA := cI) hx hb hK hP 4 0 rfl rfl h11 dX4_restore_53 ?_
      obtain ⟨g12, h13, h⟩ := bE h
      refine x_iast (cA := cI) hx hb hK hP hD hS 1 0 rfl rfl h13 dX4_restore_54 (fun H locs hP hD hS => ?_)
      have hP : va_P D vwCl (wM cI cZ o b (M0 z0 g12)) H := hP
      have hD : va_D A (wM cI cZ o b (M0 z0 g12)) := hD
      refine lv_iinc (v := (y2 + (1 : Int32))) (lv' := [(2, .int (y2 + (1 : Int32))), (0, .ref o), (1, .int y1)]) hx hb dX4_restore_55 hl (k := 2) rfl rfl (by decide) rfl (fun ls hl => ?_)
      refine lv_goto (tgt := 30) hx hb dX4_restore_58 (by decide) ?_
      exact ih (M0 z0 g12) (y2 + (1 : Int32)) _ _ _ hP hD hS (lv_sub hl [1, 2, 0] rfl) h
set_option maxHeartbeats 4000000 in
set_option maxRecDepth 100000 in
theorem c_X4_restore (l : Launch) (D : va_G) (cI cZ cT : ClassId) (sz : Nat) (o : Nat) (b : Nat → Nat) (t : MM) (a1 : Int32) (r : Int32 × MM) (h : f_X4_restore t a1 = some r) : Met l yX4_restore (wq yX4_restore cX4_restore 3 (some .int)) rm_X4_restore (q_M D (q_tys cI cZ cT) sz (wM cI cZ o b t) q_T [.ref o, .int a1]) (va_Qi (fun r' _ => r' = r.1) (q_B D (wM cI cZ o b t) sz (wM cI cZ o b r.2)) (va_A (wM cI cZ o b t) sz)) 0 0 (va_A (wM cI cZ o b t) sz) := by
  refine q_MI (cc := cX4_restore) (maxL := 3) (ret := (some .int)) (E := fun sz => q_T) (Qc := fun sz => (va_Qi (fun r' _ => r' = r.1) (q_B D (wM cI cZ o b t) sz (wM cI cZ o b r.2)) (va_A (wM cI cZ o b t) sz))) (free := fun sz => va_A (wM cI cZ o b t) sz) (plainFor_of_name (by decide)) (Nat.le_of_ble_eq_true rfl) (fun p e s m below meth c C0 hname hP hK hD hE ls hl => ?_)
  have hA : ∀ q, s.heap.size ≤ q → (va_A (wM cI cZ o b t) s.heap.size) q := fun _ => Or.inr
  have hS : va_S (va_A (wM cI cZ o b t) s.heap.size) s.heap s.heap [] := va_S.rf
  have hl : lv_has ls 3 [(0, .ref o), (1, .int a1)] := hl
  obtain ⟨hx, hb, hr, hml, hown, hts, hlocks⟩ := id C0
  have hF : CallFix p m c cX4_restore 3 s _ BW RX4 := ⟨hx, hb, hml, hown, hts⟩
  rw [f_X4_restore] at h
  refine lv_iload_n hx hb dX4_restore_0 rfl (lv_at hl 1 rfl) ?_
  refine lv_iconst (v := 0) hx hb dX4_restore_1 (by decide) ?_
  refine lv_iconst (v := 1) hx hb dX4_restore_2 (by decide) ?_
  obtain ⟨x1, h2, h⟩ := bE h
  refine x_RS (As := [.int a1, .int (0 : Int32), .int (1 : Int32)]) (rest := []) hF (c_X4_in l D cI cZ cT  a1 (0 : Int32) (1 : Int32) x1 h2) (va_cwS 3 hts (gqS mw_426 mw_427 mw_428 mw_421) rfl rfl rfl hd_X4_in.2 ⟨Nat.le_of_ble_eq_true rfl, Nat.le_of_ble_eq_true rfl⟩) hK hP q_T_bl (fun _ _ _ => trivial) [] rfl rfl hl.1 rfl (Nat.le_of_ble_eq_true rfl) dX4_restore_3 ⟨Nat.zero_le _, Nat.zero_le _⟩ ?_
  refine lv_if_ne (tgt := 12) hx hb dX4_restore_6 (by decide) (fun c3 => ?_) (fun c3 => ?_)
  · have h := xf c3 h
    refine lv_aload_n hx hb dX4_restore_12 rfl (lv_at hl 0 rfl) ?_
    refine va_get (D := D) (v := .ref (b 5)) (C := RX4) (T := TX4) (N := 10) hx hb hts iw_X4 hown hK hP 0 rfl rfl 5 (by decide) (hts _ mw_419) (fun _ h9 => h9) rfl dX4_restore_13 ?_
    refine lv_iload_n hx hb dX4_restore_16 rfl (lv_at hl 1 rfl) ?_
    obtain ⟨x4, h5, h⟩ := bE h
    refine x_zald (cA := cZ) hx hb hK hP 5 1 rfl rfl h5 dX4_restore_17 ?_
    refine lv_if_ne (tgt := 24) hx hb dX4_restore_18 (by decide) (fun c6 => ?_) (fun c6 => ?_)
    · have h := xf c6 h
      refine lv_aload_n hx hb dX4_restore_24 rfl (lv_at hl 0 rfl) ?_
      obtain ⟨x7, h8, h⟩ := bE h
      refine x_VV (As := []) (rest := []) (wr := []) (W1 := wM cI cZ o b x7) hF (c_X4_putAside l D cI cZ cT _ o b t  x7 h8) (cwV 0 hts (gqV mw_516 mw_517 mw_518 mw_428 mw_422) rfl rfl rfl hd_X4_putAside ⟨Nat.le_of_ble_eq_true rfl, Nat.le_of_ble_eq_true rfl⟩) hK hP hD hS hA q_T_bl (fun _ _ _ => trivial) [0, 1, 2, 3, 4, 5, 6] [] [0, 1, 2, 3, 4, 5, 6] rfl rfl ⟨rfl, rfl, rfl, rfl⟩ rfl rfl rfl rfl hl.1 rfl (Nat.le_of_ble_eq_true rfl) dX4_restore_25 ⟨Nat.zero_le _, Nat.zero_le _⟩ (fun H locs hP hD hS => ?_)
      refine lv_iconst (v := 0) hx hb dX4_restore_28 (by decide) ?_
      refine lv_istore_n (lv' := [(2, .int (0 : Int32)), (0, .ref o), (1, .int a1)]) hx hb dX4_restore_29 rfl hl (by decide) rfl (fun ls hl => ?_)
      obtain ⟨v14, h15, h⟩ := bE h
      refine k_X4_restore_L30 (v := v14) o b a1 hA C0 hK (fun H locs ls hP hD hS hl => ?_) 2000 x7 (0 : Int32) _ _ _ hP hD hS (lv_sub hl [1, 2, 0] rfl) h15
      refine lv_aload_n hx hb dX4_restore_61 rfl (lv_at hl 0 rfl) ?_
      refine lv_aload_n hx hb dX4_restore_62 rfl (lv_at hl 0 rfl) ?_
      refine va_get (D := D) (v := .ref (b 0)) (C := RX4) (T := TX4) (N := 10) hx hb hts iw_X4 hown hK hP 0 rfl rfl 0 (by decide) (hts _ mw_414) (fun _ h9 => h9) rfl dX4_restore_63 ?_
      refine lv_bipush (v := 47) hx hb dX4_restore_66 (by decide) ?_
      obtain ⟨x16, h17, h⟩ := bE h
      refine x_iald (cA := cI) hx hb hK hP 1 0 rfl rfl h17 dX4_restore_68 ?_
      obtain ⟨x18, h19, h⟩ := bE h
      refine x_MV (As := [.int x16]) (rest := []) (wr := []) (W1 := wM cI cZ o b x18.2) hF (c_X4_end l D cI cZ cT _ o b v14 x16 x18 h19) (cwV 1 hts (gqV mw_519 mw_520 mw_521 mw_428 mw_423) rfl rfl rfl hd_X4_end ⟨Nat.le_of_ble_eq_true rfl, Nat.le_of_ble_eq_true rfl⟩) hK hP hD hS hA q_T_bl (fun _ _ _ => trivial) [0, 1, 2, 3, 4, 5, 6] [] [0, 1, 2, 3, 4, 5, 6] rfl rfl ⟨rfl, rfl, rfl, rfl⟩ rfl rfl rfl rfl hl.1 rfl (Nat.le_of_ble_eq_true rfl) dX4_restore_69 ⟨Nat.zero_le _, Nat.zero_le _⟩ (fun H locs hP hD hS => ?_)
      cases h
      exact x_retM C0 rfl hP hD hS dX4_restore_72
    · have h := xt c6 h
      refine lv_bipush (v := (-5)) hx hb dX4_restore_21 (by decide) ?_
      cases h
      exact x_retM C0 rfl hP hD hS dX4_restore_23
  · have h := xt c3 h
    refine lv_bipush (v := (-2)) hx hb dX4_restore_9 (by decide) ?_
    cases h
    exact x_retM C0 rfl hP hD hS dX4_restore_11

end G_MD

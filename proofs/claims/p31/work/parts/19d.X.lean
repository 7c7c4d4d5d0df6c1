section G_X3
variable {p : Program} {l : Launch} {e : Env} {s : State} {m : MethodId} {args : Array Value} {below : List Frame} {meth : Method} {c : Code} {D : va_G} {cI cZ cT : ClassId}

/-! QuarrelWays.undo ()I -/
def f_X3_undo (t : TT) (hh : HH) (pp : PP) : Option (Int32 × TT × HH) := ((f_X0_goBack hh t).bind fun x1 => (if x1.1 = 0 then some ((-5 : Int32), x1.2.2, x1.2.1) else some (x1.2.1.2.1, x1.2.2, x1.2.1)))
abbrev rm_X3_undo : Room := { frames := 4, cells := 0, slots := 0, locals := 107 }
theorem hd_X3_undo : yX3_undo.cls = RX3 ∧ yX3_undo.cls ≠ "java/lang/invoke/MethodHandle" ∧ yX3_undo.cls ≠ "java/lang/invoke/VarHandle" ∧ (parseMethodDescriptor yX3_undo.desc).map (fun d => d.parameters.length) = some 0 := by decide +kernel
set_option maxHeartbeats 4000000 in
set_option maxRecDepth 100000 in
theorem c_X3_undo (l : Launch) (D : va_G) (cI cZ cT : ClassId) (G : q_G) (sz : Nat) (w sl : Nat) (o a : Nat) (t : TT) (hs hst : Nat) (ta ca : Nat → Nat) (hh : HH) (pd sg nm : Nat) (pp : PP) (r : Int32 × TT × HH) (h : f_X3_undo t hh pp = some r) : Met l yX3_undo (wq yX3_undo cX3_undo 1 (some .int)) rm_X3_undo (q_M D (q_tys cI cZ cT) sz ((wX w o hs pd sl) ++ (wT cI o a t) ++ (wH cI cT hs hst ta ca hh) ++ (wPd cI pd sg nm pp)) (q_E G (va_A ((wX w o hs pd sl) ++ (wT cI o a t) ++ (wH cI cT hs hst ta ca hh) ++ (wPd cI pd sg nm pp)) sz)) [.ref w]) (va_Qi (fun r' _ => r' = r.1) (q_B D ((wX w o hs pd sl) ++ (wT cI o a t) ++ (wH cI cT hs hst ta ca hh) ++ (wPd cI pd sg nm pp)) sz ((wX w o hs pd sl) ++ (wT cI o a r.2.1) ++ (wH cI cT hs hst ta ca r.2.2) ++ (wPd cI pd sg nm pp))) (va_A ((wX w o hs pd sl) ++ (wT cI o a t) ++ (wH cI cT hs hst ta ca hh) ++ (wPd cI pd sg nm pp)) sz)) 0 0 (va_A ((wX w o hs pd sl) ++ (wT cI o a t) ++ (wH cI cT hs hst ta ca hh) ++ (wPd cI pd sg nm pp)) sz) := by
  refine q_MI (cc := cX3_undo) (maxL := 1) (ret := (some .int)) (E := fun sz => (q_E G (va_A ((wX w o hs pd sl) ++ (wT cI o a t) ++ (wH cI cT hs hst ta ca hh) ++ (wPd cI pd sg nm pp)) sz))) (Qc := fun sz => (va_Qi (fun r' _ => r' = r.1) (q_B D ((wX w o hs pd sl) ++ (wT cI o a t) ++ (wH cI cT hs hst ta ca hh) ++ (wPd cI pd sg nm pp)) sz ((wX w o hs pd sl) ++ (wT cI o a r.2.1) ++ (wH cI cT hs hst ta ca r.2.2) ++ (wPd cI pd sg nm pp))) (va_A ((wX w o hs pd sl) ++ (wT cI o a t) ++ (wH cI cT hs hst ta ca hh) ++ (wPd cI pd sg nm pp)) sz))) (free := fun sz => va_A ((wX w o hs pd sl) ++ (wT cI o a t) ++ (wH cI cT hs hst ta ca hh) ++ (wPd cI pd sg nm pp)) sz) (plainFor_of_name (by decide)) (Nat.le_of_ble_eq_true rfl) (fun p e s m below meth c C0 hname hP hK hD hE ls hl => ?_)
  have hA : ∀ q, s.heap.size ≤ q → (va_A ((wX w o hs pd sl) ++ (wT cI o a t) ++ (wH cI cT hs hst ta ca hh) ++ (wPd cI pd sg nm pp)) s.heap.size) q := fun _ => Or.inr
  have hS : va_S (va_A ((wX w o hs pd sl) ++ (wT cI o a t) ++ (wH cI cT hs hst ta ca hh) ++ (wPd cI pd sg nm pp)) s.heap.size) s.heap s.heap [] := va_S.rf
  have hE : q_E G (va_A ((wX w o hs pd sl) ++ (wT cI o a t) ++ (wH cI cT hs hst ta ca hh) ++ (wPd cI pd sg nm pp)) s.heap.size) s := hE
  have hl : lv_has ls 1 [(0, .ref w)] := hl
  obtain ⟨hx, hb, hr, hml, hown, hts, hlocks⟩ := id C0
  have hF : CallFix p m c cX3_undo 1 s _ BW RX3 := ⟨hx, hb, hml, hown, hts⟩
  rw [f_X3_undo] at h
  refine lv_aload_n hx hb dX3_undo_0 rfl (lv_at hl 0 rfl) ?_
  refine va_get (D := D) (v := .ref hs) (C := RX3) (T := TX3) (N := 4) hx hb hts iw_X3 hown hK hP 0 rfl rfl 1 (by decide) (hts _ mw_218) (fun _ h9 => h9) rfl dX3_undo_1 ?_
  refine lv_aload_n hx hb dX3_undo_4 rfl (lv_at hl 0 rfl) ?_
  refine va_get (D := D) (v := .ref o) (C := RX3) (T := TX3) (N := 4) hx hb hts iw_X3 hown hK hP 0 rfl rfl 0 (by decide) (hts _ mw_215) (fun _ h9 => h9) rfl dX3_undo_5 ?_
  obtain ⟨x1, h2, h⟩ := bE h
  refine x_MVNp (As := [.ref o]) (rest := []) (wr := (wX w o hs pd sl) ++ (wPd cI pd sg nm pp)) (W1 := (wX w o hs pd sl) ++ (wT cI o a x1.2.2) ++ (wH cI cT hs hst ta ca x1.2.1) ++ (wPd cI pd sg nm pp)) hF (c_X0_goBack l D cI cZ cT G _ hs hst ta ca hh o a t  x1 h2) ⟨(va_cnB 1 hts (gq mw_52) rfl rfl rfl (nM_of hE 34 rfl) (hts _ mw_33) hd_X0_goBack.2 ⟨Nat.le_of_ble_eq_true rfl, Nat.le_of_ble_eq_true rfl⟩), hts _ mw_295, hts _ mw_296⟩ hK hP hD hS hA q_E_bl (q_E_go hE hS (q_freep (p4_HT (wX w o hs pd sl) (wT cI o a t) (wH cI cT hs hst ta ca hh) (wPd cI pd sg nm pp)) hD hS hA)) (p4_HT (wX w o hs pd sl) (wT cI o a t) (wH cI cT hs hst ta ca hh) (wPd cI pd sg nm pp)) (p4_HT (wX w o hs pd sl) (wT cI o a x1.2.2) (wH cI cT hs hst ta ca x1.2.1) (wPd cI pd sg nm pp)).symm rfl rfl rfl hl.1 rfl (Nat.le_of_ble_eq_true rfl) dX3_undo_8 ⟨Nat.zero_le _, Nat.zero_le _⟩ (fun H locs hP hD hS => ?_)
  refine lv_if_eq (tgt := 24) hx hb dX3_undo_11 (by decide) (fun c3 => ?_) (fun c3 => ?_)
  · have h := xt c3 h
    refine lv_bipush (v := (-5)) hx hb dX3_undo_24 (by decide) ?_
    cases h
    exact x_retM C0 rfl hP hD hS dX3_undo_26
  · have h := xf c3 h
    refine lv_aload_n hx hb dX3_undo_14 rfl (lv_at hl 0 rfl) ?_
    refine va_get (D := D) (v := .ref hs) (C := RX3) (T := TX3) (N := 4) hx hb hts iw_X3 hown hK hP 0 rfl rfl 1 (by decide) (hts _ mw_218) (fun _ h9 => h9) rfl dX3_undo_15 ?_
    refine va_getN (D := D) (v := .int x1.2.1.2.1) (C := RX0) (T := TX0) (N := 3) hx hb hts iw_X0 hown hK hP 3 rfl rfl 2 (by decide) (nF_of hE 1 rfl) (fun _ h9 => h9) rfl dX3_undo_18 ?_
    refine lv_goto (tgt := 26) hx hb dX3_undo_21 (by decide) ?_
    cases h
    exact x_retM C0 rfl hP hD hS dX3_undo_26

end G_X3

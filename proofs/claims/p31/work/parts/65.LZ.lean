/-! the start of the law -/
section G_LZ
variable {p : Program} {l : Launch} {e : Env} {s : State} {m : MethodId} {args : Array Value} {below : List Frame} {meth : Method} {c : Code} {D : va_G} {cI cZ cT : ClassId}

set_option maxHeartbeats 4000000 in
set_option maxRecDepth 100000 in
theorem st_NN {b L : Nat} {xs : Nat → Int32} (hts : ∀ w ∈ lw_tbl, w.before #[Value.ref b] s = true) : q_NN s := ⟨List.forall_mem_cons.mpr ⟨va_Nw.of rfl (hts _ (List.mem_append_right _ (List.mem_append_left _ (List.mem_of_getElem? (i := 54) rfl)))), List.forall_mem_cons.mpr ⟨va_Nw.of rfl (hts _ (List.mem_append_right _ (List.mem_append_left _ (List.mem_of_getElem? (i := 124) rfl)))), List.forall_mem_cons.mpr ⟨va_Nw.of rfl (hts _ (List.mem_append_right _ (List.mem_append_left _ (List.mem_of_getElem? (i := 145) rfl)))), List.forall_mem_cons.mpr ⟨va_Nw.of rfl (hts _ (List.mem_append_right _ (List.mem_append_left _ (List.mem_of_getElem? (i := 18) rfl)))), List.forall_mem_cons.mpr ⟨va_Nw.of rfl (hts _ (List.mem_append_right _ (List.mem_append_left _ (List.mem_of_getElem? (i := 48) rfl)))), List.forall_mem_cons.mpr ⟨va_Nw.of rfl (hts _ (List.mem_append_right _ (List.mem_append_left _ (List.mem_of_getElem? (i := 68) rfl)))), List.forall_mem_cons.mpr ⟨va_Nw.of rfl (hts _ (List.mem_append_right _ (List.mem_append_left _ (List.mem_of_getElem? (i := 109) rfl)))), List.forall_mem_cons.mpr ⟨va_Nw.of rfl (hts _ (List.mem_append_right _ (List.mem_append_right _ (List.mem_append_left _ (List.mem_of_getElem? (i := 83) rfl))))), List.forall_mem_cons.mpr ⟨va_Nw.of rfl (hts _ (List.mem_append_right _ (List.mem_append_left _ (List.mem_of_getElem? (i := 141) rfl)))), List.forall_mem_cons.mpr ⟨va_Nw.of rfl (hts _ (List.mem_append_right _ (List.mem_append_left _ (List.mem_of_getElem? (i := 134) rfl)))), List.forall_mem_cons.mpr ⟨va_Nw.of rfl (hts _ (List.mem_append_right _ (List.mem_append_right _ (List.mem_append_left _ (List.mem_of_getElem? (i := 23) rfl))))), List.forall_mem_cons.mpr ⟨va_Nw.of rfl (hts _ (List.mem_append_right _ (List.mem_append_right _ (List.mem_append_left _ (List.mem_of_getElem? (i := 31) rfl))))), List.forall_mem_cons.mpr ⟨va_Nw.of rfl (hts _ (List.mem_append_right _ (List.mem_append_left _ (List.mem_of_getElem? (i := 232) rfl)))), List.forall_mem_cons.mpr ⟨va_Nw.of rfl (hts _ (List.mem_append_right _ (List.mem_append_right _ (List.mem_append_left _ (List.mem_of_getElem? (i := 39) rfl))))), List.forall_mem_cons.mpr ⟨va_Nw.of rfl (hts _ (List.mem_append_right _ (List.mem_append_right _ (List.mem_append_left _ (List.mem_of_getElem? (i := 55) rfl))))), List.forall_mem_cons.mpr ⟨va_Nw.of rfl (hts _ (List.mem_append_right _ (List.mem_append_right _ (List.mem_append_left _ (List.mem_of_getElem? (i := 75) rfl))))), List.forall_mem_cons.mpr ⟨va_Nw.of rfl (hts _ (List.mem_append_right _ (List.mem_append_right _ (List.mem_append_left _ (List.mem_of_getElem? (i := 95) rfl))))), List.forall_mem_cons.mpr ⟨va_Nw.of rfl (hts _ (List.mem_append_right _ (List.mem_append_right _ (List.mem_append_left _ (List.mem_of_getElem? (i := 100) rfl))))), List.forall_mem_cons.mpr ⟨va_Nw.of rfl (hts _ (List.mem_append_right _ (List.mem_append_right _ (List.mem_append_left _ (List.mem_of_getElem? (i := 125) rfl))))), List.forall_mem_cons.mpr ⟨va_Nw.of rfl (hts _ (List.mem_append_right _ (List.mem_append_right _ (List.mem_append_left _ (List.mem_of_getElem? (i := 114) rfl))))), List.forall_mem_cons.mpr ⟨va_Nw.of rfl (hts _ (List.mem_append_right _ (List.mem_append_right _ (List.mem_append_left _ (List.mem_of_getElem? (i := 141) rfl))))), List.forall_mem_cons.mpr ⟨va_Nw.of rfl (hts _ (List.mem_append_right _ (List.mem_append_right _ (List.mem_append_left _ (List.mem_of_getElem? (i := 174) rfl))))), List.forall_mem_cons.mpr ⟨va_Nw.of rfl (hts _ (List.mem_append_right _ (List.mem_append_right _ (List.mem_append_left _ (List.mem_of_getElem? (i := 190) rfl))))), List.forall_mem_cons.mpr ⟨va_Nw.of rfl (hts _ (List.mem_append_right _ (List.mem_append_left _ (List.mem_of_getElem? (i := 152) rfl)))), List.forall_mem_cons.mpr ⟨va_Nw.of rfl (hts _ (List.mem_append_right _ (List.mem_append_right _ (List.mem_append_left _ (List.mem_of_getElem? (i := 149) rfl))))), List.forall_mem_cons.mpr ⟨va_Nw.of rfl (hts _ (List.mem_append_right _ (List.mem_append_right _ (List.mem_append_left _ (List.mem_of_getElem? (i := 150) rfl))))), List.forall_mem_cons.mpr ⟨va_Nw.of rfl (hts _ (List.mem_append_right _ (List.mem_append_right _ (List.mem_append_left _ (List.mem_of_getElem? (i := 158) rfl))))), List.forall_mem_cons.mpr ⟨va_Nw.of rfl (hts _ (List.mem_append_right _ (List.mem_append_right _ (List.mem_append_left _ (List.mem_of_getElem? (i := 151) rfl))))), List.forall_mem_cons.mpr ⟨va_Nw.of rfl (hts _ (List.mem_append_right _ (List.mem_append_right _ (List.mem_append_left _ (List.mem_of_getElem? (i := 201) rfl))))), List.forall_mem_cons.mpr ⟨va_Nw.of rfl (hts _ (List.mem_append_right _ (List.mem_append_right _ (List.mem_append_left _ (List.mem_of_getElem? (i := 202) rfl))))), List.forall_mem_cons.mpr ⟨va_Nw.of rfl (hts _ (List.mem_append_right _ (List.mem_append_right _ (List.mem_append_left _ (List.mem_of_getElem? (i := 221) rfl))))), List.forall_mem_cons.mpr ⟨va_Nw.of rfl (hts _ (List.mem_append_right _ (List.mem_append_right _ (List.mem_append_right _ (List.mem_of_getElem? (i := 0) rfl))))), List.forall_mem_cons.mpr ⟨va_Nw.of rfl (hts _ (List.mem_append_right _ (List.mem_append_right _ (List.mem_append_right _ (List.mem_of_getElem? (i := 1) rfl))))), List.forall_mem_cons.mpr ⟨va_Nw.of rfl (hts _ (List.mem_append_right _ (List.mem_append_right _ (List.mem_append_left _ (List.mem_of_getElem? (i := 163) rfl))))), List.forall_mem_cons.mpr ⟨va_Nw.of rfl (hts _ (List.mem_append_right _ (List.mem_append_right _ (List.mem_append_left _ (List.mem_of_getElem? (i := 229) rfl))))), fun _ h => absurd h List.not_mem_nil⟩⟩⟩⟩⟩⟩⟩⟩⟩⟩⟩⟩⟩⟩⟩⟩⟩⟩⟩⟩⟩⟩⟩⟩⟩⟩⟩⟩⟩⟩⟩⟩⟩⟩⟩, List.forall_mem_cons.mpr ⟨va_Nw.of rfl (hts _ (List.mem_append_right _ (List.mem_append_left _ (List.mem_of_getElem? (i := 74) rfl)))), List.forall_mem_cons.mpr ⟨va_Nw.of rfl (hts _ (List.mem_append_right _ (List.mem_append_left _ (List.mem_of_getElem? (i := 58) rfl)))), fun _ h => absurd h List.not_mem_nil⟩⟩⟩
theorem st_AO {b L : Nat} {xs : Nat → Int32} (hts : ∀ w ∈ lw_tbl, w.before #[Value.ref b] s = true) : va_AO "QuarrelWays$Town" s := va_AO.of (A := #[Value.ref b]) (hts _ (List.mem_append_right _ (List.mem_append_left _ (List.mem_of_getElem? (i := 53) rfl))))
theorem st_arr {b L : Nat} {xs : Nat → Int32} (hts : ∀ w ∈ lw_tbl, w.before #[Value.ref b] s = true) {ty : FieldType} (h : (Cond.arrayClass ty).before #[Value.ref b] s = true) : ∃ cA : ClassId, ArrOfT s cA ty ∧ s.vm.findClass ("[" ++ ty.toString) = some cA := by
  obtain ⟨cA, kA, comp, h1, h2, h3⟩ := Cond.arrayClass_spec h
  exact ⟨cA, fun n z => ⟨(fun k h => by cases h), kA, h2, comp, h3⟩, h1⟩
theorem st_K {b L : Nat} {xs : Nat → Int32} (hts : ∀ w ∈ lw_tbl, w.before #[Value.ref b] s = true) (dC : Nat → ClassId) (dI : Nat → Nat → Nat) (hk : ∀ (k : Nat) (q : vw_C), vwCl[k]? = some q → u_Kn s q.1 q.2.1 q.2.2 (dC k) (dI k)) : ∃ cI cZ cT : ClassId, va_K (dC, dI) vwCl (q_tys cI cZ cT) s := by
  obtain ⟨cI, i1, i2⟩ := st_arr (L := L) (xs := xs) hts (hts _ (List.mem_append_right _ (List.mem_append_left _ (List.mem_of_getElem? (i := 45) rfl))))
  obtain ⟨comp, cT, kT, t1, t2, t3, t4, t5⟩ := Cond.arrayOver_spec (n := "QuarrelWays$Town") (show (Cond.arrayOver (.object "QuarrelWays$Town")).holds #[Value.ref b] s none s [] = true from (hts _ (List.mem_append_right _ (List.mem_append_left _ (List.mem_of_getElem? (i := 53) rfl)))))
  refine ⟨cI, cI, cT, hk, fun k q hq => ?_⟩
  match k, hq with
  | 0, hq => cases hq; exact ⟨i1, i2⟩
  | 1, hq => cases hq; exact ⟨i1, i2⟩
  | 2, hq => cases hq; exact ⟨fun n z => ⟨(fun k h => by cases h), kT, t3, comp, t4⟩, kT, comp, t3, t4, t1, t5⟩
  | k + 3, hq => simp [q_tys] at hq
set_option maxHeartbeats 8000000 in
set_option maxRecDepth 100000 in
theorem st_E {b L : Nat} {xs : Nat → Int32} (hts : ∀ w ∈ lw_tbl, w.before #[Value.ref b] s = true) (hgv : (Jvm.Cond.and given_1 narrow_1).before #[Value.ref b] s = true) : ∃ G : q_G, q_E G (fun q : Nat => s.heap.size ≤ q) s := by
  have hf := flat_of_before _ hgv
  have hA0 : ∀ a : Nat, a < s.heap.size → ¬ (fun q : Nat => s.heap.size ≤ q) a := fun a h => Nat.not_le.mpr h
  have etL : ∀ j : Nat, j < 4 → (Term.elem (Term.static "QuarrelWays$Town" "LOWEST" "[I") (.int (Int32.ofNat j))).eval #[Value.ref b] s none [] s = some (.int (lowB j)) := by
    intro j hj
    rcases (show j = 0 ∨ j = 1 ∨ j = 2 ∨ j = 3 by omega) with rfl | rfl | rfl | rfl
    · exact va_eqt (hf (Cond.eq (.elem (Term.static "QuarrelWays$Town" "LOWEST" "[I") (.int 0)) (.int 1)) (by decide +kernel))
    · exact va_eqt (hf (Cond.eq (.elem (Term.static "QuarrelWays$Town" "LOWEST" "[I") (.int 1)) (.int 0)) (by decide +kernel))
    · exact va_eqt (hf (Cond.eq (.elem (Term.static "QuarrelWays$Town" "LOWEST" "[I") (.int 2)) (.int 1)) (by decide +kernel))
    · exact va_eqt (hf (Cond.eq (.elem (Term.static "QuarrelWays$Town" "LOWEST" "[I") (.int 3)) (.int 0)) (by decide +kernel))
  obtain ⟨tL, vtL, TtL⟩ := va_Tof (tm := (Term.static "QuarrelWays$Town" "LOWEST" "[I")) (ty := .int) (N := 4) (f := fun j => .int (lowB j)) (by decide) (hf (Cond.arrayOf (Term.static "QuarrelWays$Town" "LOWEST" "[I") .int) (by decide +kernel)) (va_eqt (hf (Cond.eq (.length (Term.static "QuarrelWays$Town" "LOWEST" "[I")) (.int 4)) (by decide +kernel))) etL hA0
  have etH : ∀ j : Nat, j < 4 → (Term.elem (Term.static "QuarrelWays$Town" "HIGHEST" "[I") (.int (Int32.ofNat j))).eval #[Value.ref b] s none [] s = some (.int (highB j)) := by
    intro j hj
    rcases (show j = 0 ∨ j = 1 ∨ j = 2 ∨ j = 3 by omega) with rfl | rfl | rfl | rfl
    · exact va_eqt (hf (Cond.eq (.elem (Term.static "QuarrelWays$Town" "HIGHEST" "[I") (.int 0)) (.int 48)) (by decide +kernel))
    · exact va_eqt (hf (Cond.eq (.elem (Term.static "QuarrelWays$Town" "HIGHEST" "[I") (.int 1)) (.int 99)) (by decide +kernel))
    · exact va_eqt (hf (Cond.eq (.elem (Term.static "QuarrelWays$Town" "HIGHEST" "[I") (.int 2)) (.int 200)) (by decide +kernel))
    · exact va_eqt (hf (Cond.eq (.elem (Term.static "QuarrelWays$Town" "HIGHEST" "[I") (.int 3)) (.int 400)) (by decide +kernel))
  obtain ⟨tH, vtH, TtH⟩ := va_Tof (tm := (Term.static "QuarrelWays$Town" "HIGHEST" "[I")) (ty := .int) (N := 4) (f := fun j => .int (highB j)) (by decide) (hf (Cond.arrayOf (Term.static "QuarrelWays$Town" "HIGHEST" "[I") .int) (by decide +kernel)) (va_eqt (hf (Cond.eq (.length (Term.static "QuarrelWays$Town" "HIGHEST" "[I")) (.int 4)) (by decide +kernel))) etH hA0
  have i2 : (Cond.initialized "QuarrelWays$Town").before #[Value.ref b] s = true := (hts _ (List.mem_append_right _ (List.mem_append_left _ (List.mem_of_getElem? (i := 2) rfl))))
  exact ⟨(fun _ => 0, fun _ => 0, tL, tH), st_NN (L := L) (xs := xs) hts, trivial, trivial, trivial, trivial, ⟨va_Zof (hts _ (List.mem_append_right _ (List.mem_append_right _ (List.mem_append_left _ (List.mem_of_getElem? (i := 88) rfl))))) i2 vtL hA0, TtL⟩, va_Zof (hts _ (List.mem_append_right _ (List.mem_append_right _ (List.mem_append_left _ (List.mem_of_getElem? (i := 90) rfl))))) i2 vtH hA0, TtH⟩
set_option maxHeartbeats 8000000 in
set_option maxRecDepth 100000 in
theorem start_of {b L : Nat} {xs : Nat → Int32} (hL : L ≤ 260) (C0 : lw_At p s m meth c b L xs) : W p l e room_1 s m #[Value.ref b] below meth c s.heap [] 0 0 (lw_Z below #[Value.ref b] s) (entryFrame m ([Value.ref b] : List Value).toArray 5) := by
  obtain ⟨hx, hb, hr, hml, hown, hts, hX, hbl, hlocks, hgv⟩ := id C0
  have hA : ∀ q : Nat, s.heap.size ≤ q → (fun q : Nat => s.heap.size ≤ q) q := fun _ h => h
  have hbA : ¬ (fun q : Nat => s.heap.size ≤ q) b := Nat.not_le.mpr hbl
  obtain ⟨c0, iS0, hKn0⟩ := u_known (C := RX0) (T := TX0) (N := 3) (n := 3) hts (fun w h => BW_in w (iw_X0 w h)) (hts _ (List.mem_append_right _ (List.mem_append_left _ (List.mem_of_getElem? (i := 47) rfl))))
  obtain ⟨c1, iS1, hKn1⟩ := u_known (C := RX1) (T := TX1) (N := 6) (n := 6) hts (fun w h => BW_in w (iw_X1 w h)) (hts _ (List.mem_append_right _ (List.mem_append_left _ (List.mem_of_getElem? (i := 67) rfl))))
  obtain ⟨c2, iS2, hKn2⟩ := u_known (C := RX2) (T := TX2) (N := 6) (n := 6) hts (fun w h => BW_in w (iw_X2 w h)) (hts _ (List.mem_append_right _ (List.mem_append_left _ (List.mem_of_getElem? (i := 17) rfl))))
  obtain ⟨c3, iS3, hKn3⟩ := u_known (C := RX3) (T := TX3) (N := 4) (n := 4) hts (fun w h => BW_in w (iw_X3 w h)) (hts _ (List.mem_append_right _ (List.mem_append_left _ (List.mem_of_getElem? (i := 9) rfl))))
  obtain ⟨dC, dI, hKc⟩ : ∃ (dC : Nat → ClassId) (dI : Nat → Nat → Nat), ∀ (k : Nat) (q : vw_C), vwCl[k]? = some q → u_Kn s q.1 q.2.1 q.2.2 (dC k) (dI k) := by
    refine ⟨fun k => if k = 0 then c0 else if k = 1 then c1 else if k = 2 then c2 else c3, fun k => if k = 0 then iS0 else if k = 1 then iS1 else if k = 2 then iS2 else iS3, ?_⟩
    intro k q hq
    match k, hq with
    | 0, hq => cases hq; exact hKn0
    | 1, hq => cases hq; exact hKn1
    | 2, hq => cases hq; exact hKn2
    | 3, hq => cases hq; exact hKn3
    | k + 4, hq => simp [vwCl] at hq
  obtain ⟨cI, cZ, cT, hK⟩ := st_K (L := L) (xs := xs) hts dC dI hKc
  obtain ⟨G, hE⟩ := st_E (L := L) (xs := xs) hts hgv
  have hE2 : q_C s := ⟨hE.1, st_AO (L := L) (xs := xs) hts⟩
  have hS : va_S (fun q : Nat => s.heap.size ≤ q) s.heap s.heap [] := va_S.rf
  have hP : va_P (dC, dI) vwCl [] s.heap := fun k q h => by simp at h
  have hD : va_D (fun q : Nat => s.heap.size ≤ q) [] := ⟨fun i j p q h => by simp at h, fun k q h => by simp at h⟩
  have hl := lv_entry ([.ref b]) (n := 5) (Nat.le_of_ble_eq_true rfl)
  rw [lg_entry_eq]
  generalize (lg_sl ([.ref b]) ++ List.replicate (5 - (lg_sl ([.ref b])).length) Slot.unset).toArray = ls at hl ⊢
  have hl : lv_has ls 5 [(0, .ref b)] := hl
  have hbw : ∀ w ∈ BW, w.before #[Value.ref b] s = true := fun w h => hts w (BW_in w h)
  have hF : CallFix p m c code 5 s #[Value.ref b] BW RL := ⟨hx, hb, hml, hown, hbw⟩
  obtain ⟨t0, ht0, hv0, hh0⟩ := init_e
  refine va_new (own := RL) (ci := 3) (fs := [.null, .null, .null, .null]) (C := RX3) (T := TX3) (N := 4) hx hb hbw iw_X3 tyX3 tyX3_ok hown (hbw _ mw_386) (hbw _ mw_387) (hbw _ mw_51) hK hP hD hS hA rfl (fun j hj => by rcases (show j = 0 ∨ j = 1 ∨ j = 2 ∨ j = 3 by omega) with rfl | rfl | rfl | rfl <;> rfl) (Nat.le_of_ble_eq_true rfl) (Nat.le_of_ble_eq_true rfl) dL_law_0 (fun w H hP hD hS => ?_)
  refine lv_dup hx hb dL_law_3 rfl ?_
  have hP : va_P (dC, dI) vwCl ([] ++ [(w, .inr (3, [.null, .null, .null, .null]))]) H := hP
  have hD : va_D (fun q : Nat => s.heap.size ≤ q) ([] ++ [(w, .inr (3, [.null, .null, .null, .null]))]) := hD
  refine x_I (As := []) (rest := [.ref w]) (wr := []) (wc := [(w, .inr (3, [.null, .null, .null, .null]))]) hF (c_X3_init l (dC, dI) cI cZ cT _ w t0 ht0) (cwI 0 hbw (gq mw_226) rfl rfl rfl (hbw _ mw_51) (hbw _ mw_388) (hbw _ mw_389) rfl hd_X3_init.2 ⟨Nat.le_of_ble_eq_true rfl, Nat.le_of_ble_eq_true rfl⟩) hK hP hD hS hA q_C_bl (q_C_go hE2) rfl hl.1 rfl (Nat.le_of_ble_eq_true rfl) dL_law_4 ⟨Nat.le_of_ble_eq_true rfl, Nat.le_of_ble_eq_true rfl⟩ (fun u H locs hP hD hS => ?_)
  obtain ⟨⟨o, a⟩, hs, ⟨hst_, ta, ca⟩, pd, ⟨sg, nm⟩, sl⟩ := u
  have hP : va_P (dC, dI) vwCl (((wX w o hs pd sl) ++ (wT cI o a t0) ++ (wH cI cT hs hst_ ta ca (0, 0, fun _ => t0)) ++ (wPd cI pd sg nm pd0)) ++ [(sl, .inl (cT, 2, .inr (.inr (.inr (.inr (fun _ => none))))))]) H := hP
  have hD : va_D (fun q : Nat => s.heap.size ≤ q) (((wX w o hs pd sl) ++ (wT cI o a t0) ++ (wH cI cT hs hst_ ta ca (0, 0, fun _ => t0)) ++ (wPd cI pd sg nm pd0)) ++ [(sl, .inl (cT, 2, .inr (.inr (.inr (.inr (fun _ => none))))))]) := hD
  have hP := hP.left
  have hD := hD.left
  refine lv_astore_n (lv' := [(1, .ref w), (0, .ref b)]) hx hb dL_law_7 rfl hl (by decide) rfl (fun ls hl => ?_)
  refine lv_iconst (v := 0) hx hb dL_law_8 (by decide) ?_
  refine lv_istore_n (lv' := [(2, .int 0), (1, .ref w), (0, .ref b)]) hx hb dL_law_9 rfl hl (by decide) rfl (fun ls hl => ?_)
  have hl : lv_has ls 5 [(2, .int (nI 0)), (1, .ref w), (0, .ref b)] := by rw [nI_0]; exact hl
  refine law_people (G := G) ⟨hx, hb, hr, hml, hown, hbw, hlocks⟩ hK hA hE hX hbl hbA w sl o a hs hst_ ta ca pd sg nm pd0 hL (fun t hh hg hH H locs ls hP hD hS hl => ?_) 4 0 (by omega) t0 (0, 0, fun _ => t0) hv0 hh0 H _ ls hP hD hS (lv_sub hl [2, 1, 0] rfl)
  refine lv_iconst (v := 4) hx hb dL_law_55 (by decide) ?_
  refine lv_istore_n (lv' := [(2, .int 4), (0, .ref b), (1, .ref w)]) hx hb dL_law_56 rfl hl (by decide) rfl (fun ls hl => ?_)
  have hl : lv_has ls 5 [(2, .int (nI (4 + 0))), (0, .ref b), (1, .ref w)] := hl
  exact law_loop (G := G) ⟨hx, hb, hr, hml, hown, hbw, hlocks⟩ hK hA hE hX hbl hbA w sl o a hs hst_ ta ca pd sg nm pd0 hL rfl 50 0 (by omega) t hh (PV_GO hg) hH H locs ls hP hD hS (lv_sub hl [1, 2, 0] rfl)
end G_LZ

section G_LZ
variable {p : Program} {l : Launch} {e : Env} {s : State} {m : MethodId} {args : Array Value} {below : List Frame} {meth : Method} {c : Code} {D : va_G} {cI cZ cT : ClassId}

set_option maxHeartbeats 4000000 in
set_option maxRecDepth 100000 in
theorem st_NN {b L : Nat} {xs : Nat → Int32} (hts : ∀ w ∈ lw_tbl, w.before #[Value.ref b] s = true) : q_NN s := ⟨List.forall_mem_cons.mpr ⟨va_Nw.of rfl (hts _ (List.mem_append_right _ (List.mem_append_left _ (List.mem_of_getElem? (i := 60) rfl)))), List.forall_mem_cons.mpr ⟨va_Nw.of rfl (hts _ (List.mem_append_right _ (List.mem_append_left _ (List.mem_of_getElem? (i := 132) rfl)))), List.forall_mem_cons.mpr ⟨va_Nw.of rfl (hts _ (List.mem_append_right _ (List.mem_append_left _ (List.mem_of_getElem? (i := 158) rfl)))), List.forall_mem_cons.mpr ⟨va_Nw.of rfl (hts _ (List.mem_append_right _ (List.mem_append_left _ (List.mem_of_getElem? (i := 23) rfl)))), List.forall_mem_cons.mpr ⟨va_Nw.of rfl (hts _ (List.mem_append_right _ (List.mem_append_left _ (List.mem_of_getElem? (i := 54) rfl)))), List.forall_mem_cons.mpr ⟨va_Nw.of rfl (hts _ (List.mem_append_right _ (List.mem_append_left _ (List.mem_of_getElem? (i := 74) rfl)))), List.forall_mem_cons.mpr ⟨va_Nw.of rfl (hts _ (List.mem_append_right _ (List.mem_append_left _ (List.mem_of_getElem? (i := 117) rfl)))), List.forall_mem_cons.mpr ⟨va_Nw.of rfl (hts _ (List.mem_append_right _ (List.mem_append_left _ (List.mem_of_getElem? (i := 142) rfl)))), List.forall_mem_cons.mpr ⟨va_Nw.of rfl (hts _ (List.mem_append_right _ (List.mem_append_left _ (List.mem_of_getElem? (i := 154) rfl)))), List.forall_mem_cons.mpr ⟨va_Nw.of rfl (hts _ (List.mem_append_right _ (List.mem_append_left _ (List.mem_of_getElem? (i := 165) rfl)))), List.forall_mem_cons.mpr ⟨va_Nw.of rfl (hts _ (List.mem_append_right _ (List.mem_append_left _ (List.mem_of_getElem? (i := 176) rfl)))), List.forall_mem_cons.mpr ⟨va_Nw.of rfl (hts _ (List.mem_append_right _ (List.mem_append_left _ (List.mem_of_getElem? (i := 188) rfl)))), List.forall_mem_cons.mpr ⟨va_Nw.of rfl (hts _ (List.mem_append_right _ (List.mem_append_left _ (List.mem_of_getElem? (i := 196) rfl)))), List.forall_mem_cons.mpr ⟨va_Nw.of rfl (hts _ (List.mem_append_right _ (List.mem_append_left _ (List.mem_of_getElem? (i := 227) rfl)))), List.forall_mem_cons.mpr ⟨va_Nw.of rfl (hts _ (List.mem_append_right _ (List.mem_append_right _ (List.mem_append_left _ (List.mem_of_getElem? (i := 38) rfl))))), List.forall_mem_cons.mpr ⟨va_Nw.of rfl (hts _ (List.mem_append_right _ (List.mem_append_right _ (List.mem_append_left _ (List.mem_of_getElem? (i := 62) rfl))))), List.forall_mem_cons.mpr ⟨va_Nw.of rfl (hts _ (List.mem_append_right _ (List.mem_append_right _ (List.mem_append_left _ (List.mem_of_getElem? (i := 70) rfl))))), List.forall_mem_cons.mpr ⟨va_Nw.of rfl (hts _ (List.mem_append_right _ (List.mem_append_right _ (List.mem_append_left _ (List.mem_of_getElem? (i := 75) rfl))))), List.forall_mem_cons.mpr ⟨va_Nw.of rfl (hts _ (List.mem_append_right _ (List.mem_append_right _ (List.mem_append_left _ (List.mem_of_getElem? (i := 89) rfl))))), List.forall_mem_cons.mpr ⟨va_Nw.of rfl (hts _ (List.mem_append_right _ (List.mem_append_right _ (List.mem_append_left _ (List.mem_of_getElem? (i := 105) rfl))))), List.forall_mem_cons.mpr ⟨va_Nw.of rfl (hts _ (List.mem_append_right _ (List.mem_append_right _ (List.mem_append_left _ (List.mem_of_getElem? (i := 113) rfl))))), List.forall_mem_cons.mpr ⟨va_Nw.of rfl (hts _ (List.mem_append_right _ (List.mem_append_right _ (List.mem_append_left _ (List.mem_of_getElem? (i := 121) rfl))))), List.forall_mem_cons.mpr ⟨va_Nw.of rfl (hts _ (List.mem_append_right _ (List.mem_append_right _ (List.mem_append_left _ (List.mem_of_getElem? (i := 137) rfl))))), List.forall_mem_cons.mpr ⟨va_Nw.of rfl (hts _ (List.mem_append_right _ (List.mem_append_right _ (List.mem_append_left _ (List.mem_of_getElem? (i := 145) rfl))))), List.forall_mem_cons.mpr ⟨va_Nw.of rfl (hts _ (List.mem_append_right _ (List.mem_append_right _ (List.mem_append_left _ (List.mem_of_getElem? (i := 162) rfl))))), List.forall_mem_cons.mpr ⟨va_Nw.of rfl (hts _ (List.mem_append_right _ (List.mem_append_right _ (List.mem_append_left _ (List.mem_of_getElem? (i := 163) rfl))))), List.forall_mem_cons.mpr ⟨va_Nw.of rfl (hts _ (List.mem_append_right _ (List.mem_append_right _ (List.mem_append_left _ (List.mem_of_getElem? (i := 164) rfl))))), List.forall_mem_cons.mpr ⟨va_Nw.of rfl (hts _ (List.mem_append_right _ (List.mem_append_right _ (List.mem_append_left _ (List.mem_of_getElem? (i := 169) rfl))))), List.forall_mem_cons.mpr ⟨va_Nw.of rfl (hts _ (List.mem_append_right _ (List.mem_append_right _ (List.mem_append_left _ (List.mem_of_getElem? (i := 176) rfl))))), List.forall_mem_cons.mpr ⟨va_Nw.of rfl (hts _ (List.mem_append_right _ (List.mem_append_right _ (List.mem_append_left _ (List.mem_of_getElem? (i := 177) rfl))))), List.forall_mem_cons.mpr ⟨va_Nw.of rfl (hts _ (List.mem_append_right _ (List.mem_append_right _ (List.mem_append_left _ (List.mem_of_getElem? (i := 196) rfl))))), List.forall_mem_cons.mpr ⟨va_Nw.of rfl (hts _ (List.mem_append_right _ (List.mem_append_right _ (List.mem_append_left _ (List.mem_of_getElem? (i := 204) rfl))))), List.forall_mem_cons.mpr ⟨va_Nw.of rfl (hts _ (List.mem_append_right _ (List.mem_append_right _ (List.mem_append_left _ (List.mem_of_getElem? (i := 205) rfl))))), List.forall_mem_cons.mpr ⟨va_Nw.of rfl (hts _ (List.mem_append_right _ (List.mem_append_right _ (List.mem_append_left _ (List.mem_of_getElem? (i := 210) rfl))))), List.forall_mem_cons.mpr ⟨va_Nw.of rfl (hts _ (List.mem_append_right _ (List.mem_append_right _ (List.mem_append_left _ (List.mem_of_getElem? (i := 215) rfl))))), List.forall_mem_cons.mpr ⟨va_Nw.of rfl (hts _ (List.mem_append_right _ (List.mem_append_right _ (List.mem_append_left _ (List.mem_of_getElem? (i := 221) rfl))))), List.forall_mem_cons.mpr ⟨va_Nw.of rfl (hts _ (List.mem_append_right _ (List.mem_append_right _ (List.mem_append_left _ (List.mem_of_getElem? (i := 237) rfl))))), List.forall_mem_cons.mpr ⟨va_Nw.of rfl (hts _ (List.mem_append_right _ (List.mem_append_right _ (List.mem_append_right _ (List.mem_append_left _ (List.mem_of_getElem? (i := 91) rfl)))))), List.forall_mem_cons.mpr ⟨va_Nw.of rfl (hts _ (List.mem_append_right _ (List.mem_append_right _ (List.mem_append_right _ (List.mem_append_left _ (List.mem_of_getElem? (i := 100) rfl)))))), List.forall_mem_cons.mpr ⟨va_Nw.of rfl (hts _ (List.mem_append_right _ (List.mem_append_right _ (List.mem_append_right _ (List.mem_append_left _ (List.mem_of_getElem? (i := 108) rfl)))))), List.forall_mem_cons.mpr ⟨va_Nw.of rfl (hts _ (List.mem_append_right _ (List.mem_append_right _ (List.mem_append_right _ (List.mem_append_left _ (List.mem_of_getElem? (i := 120) rfl)))))), List.forall_mem_cons.mpr ⟨va_Nw.of rfl (hts _ (List.mem_append_right _ (List.mem_append_right _ (List.mem_append_right _ (List.mem_append_left _ (List.mem_of_getElem? (i := 96) rfl)))))), fun _ h => absurd h List.not_mem_nil⟩⟩⟩⟩⟩⟩⟩⟩⟩⟩⟩⟩⟩⟩⟩⟩⟩⟩⟩⟩⟩⟩⟩⟩⟩⟩⟩⟩⟩⟩⟩⟩⟩⟩⟩⟩⟩⟩⟩⟩⟩⟩, List.forall_mem_cons.mpr ⟨va_Nw.of rfl (hts _ (List.mem_append_right _ (List.mem_append_left _ (List.mem_of_getElem? (i := 80) rfl)))), List.forall_mem_cons.mpr ⟨va_Nw.of rfl (hts _ (List.mem_append_right _ (List.mem_append_left _ (List.mem_of_getElem? (i := 64) rfl)))), List.forall_mem_cons.mpr ⟨va_Nw.of rfl (hts _ (List.mem_append_right _ (List.mem_append_left _ (List.mem_of_getElem? (i := 82) rfl)))), List.forall_mem_cons.mpr ⟨va_Nw.of rfl (hts _ (List.mem_append_right _ (List.mem_append_left _ (List.mem_of_getElem? (i := 35) rfl)))), List.forall_mem_cons.mpr ⟨va_Nw.of rfl (hts _ (List.mem_append_right _ (List.mem_append_left _ (List.mem_of_getElem? (i := 84) rfl)))), fun _ h => absurd h List.not_mem_nil⟩⟩⟩⟩⟩⟩
theorem st_AO {b L : Nat} {xs : Nat → Int32} (hts : ∀ w ∈ lw_tbl, w.before #[Value.ref b] s = true) : va_AO "QuarrelWays$Town" s := va_AO.of (A := #[Value.ref b]) (hts _ (List.mem_append_right _ (List.mem_append_left _ (List.mem_of_getElem? (i := 59) rfl))))
theorem st_arr {b L : Nat} {xs : Nat → Int32} (hts : ∀ w ∈ lw_tbl, w.before #[Value.ref b] s = true) {ty : FieldType} (h : (Cond.arrayClass ty).before #[Value.ref b] s = true) : ∃ cA : ClassId, ArrOfT s cA ty ∧ s.vm.findClass ("[" ++ ty.toString) = some cA := by
  obtain ⟨cA, kA, comp, h1, h2, h3⟩ := Cond.arrayClass_spec h
  exact ⟨cA, fun n z => ⟨(fun k h => by cases h), kA, h2, comp, h3⟩, h1⟩
theorem st_K {b L : Nat} {xs : Nat → Int32} (hts : ∀ w ∈ lw_tbl, w.before #[Value.ref b] s = true) (dC : Nat → ClassId) (dI : Nat → Nat → Nat) (hk : ∀ (k : Nat) (q : vw_C), vwCl[k]? = some q → u_Kn s q.1 q.2.1 q.2.2 (dC k) (dI k)) : ∃ cI cZ cT : ClassId, va_K (dC, dI) vwCl (q_tys cI cZ cT) s := by
  obtain ⟨cI, i1, i2⟩ := st_arr (L := L) (xs := xs) hts (hts _ (List.mem_append_right _ (List.mem_append_left _ (List.mem_of_getElem? (i := 51) rfl))))
  obtain ⟨cZ, z1, z2⟩ := st_arr (L := L) (xs := xs) hts (hts _ (List.mem_append_right _ (List.mem_append_right _ (List.mem_append_right _ (List.mem_append_left _ (List.mem_of_getElem? (i := 162) rfl))))))
  obtain ⟨comp, cT, kT, t1, t2, t3, t4, t5⟩ := Cond.arrayOver_spec (n := "QuarrelWays$Town") (show (Cond.arrayOver (.object "QuarrelWays$Town")).holds #[Value.ref b] s none s [] = true from (hts _ (List.mem_append_right _ (List.mem_append_left _ (List.mem_of_getElem? (i := 59) rfl)))))
  refine ⟨cI, cZ, cT, hk, fun k q hq => ?_⟩
  match k, hq with
  | 0, hq => cases hq; exact ⟨i1, i2⟩
  | 1, hq => cases hq; exact ⟨z1, z2⟩
  | 2, hq => cases hq; exact ⟨fun n z => ⟨(fun k h => by cases h), kT, t3, comp, t4⟩, kT, comp, t3, t4, t1, t5⟩
  | k + 3, hq => simp [q_tys] at hq
set_option maxHeartbeats 8000000 in
set_option maxRecDepth 100000 in
theorem st_E {b L : Nat} {xs : Nat → Int32} (hts : ∀ w ∈ lw_tbl, w.before #[Value.ref b] s = true) (hgv : (Jvm.Cond.and given_1 narrow_1).before #[Value.ref b] s = true) : ∃ G : q_G, q_E G (fun q : Nat => s.heap.size ≤ q) s := by
  have hf := flat_of_before _ hgv
  have hA0 : ∀ a : Nat, a < s.heap.size → ¬ (fun q : Nat => s.heap.size ≤ q) a := fun a h => Nat.not_le.mpr h
  have sx : ∀ i : Nat, i < 7 → (Cond.exactly (Term.string "QuarrelWays$Pad" (49 + 2 * i)) "java/lang/String").before #[Value.ref b] s = true := by
    intro i hi
    rcases (show i = 0 ∨ i = 1 ∨ i = 2 ∨ i = 3 ∨ i = 4 ∨ i = 5 ∨ i = 6 by omega) with rfl | rfl | rfl | rfl | rfl | rfl | rfl
    · exact hf (Cond.exactly (Term.string "QuarrelWays$Pad" 49) "java/lang/String") (by decide +kernel)
    · exact hf (Cond.exactly (Term.string "QuarrelWays$Pad" 51) "java/lang/String") (by decide +kernel)
    · exact hf (Cond.exactly (Term.string "QuarrelWays$Pad" 53) "java/lang/String") (by decide +kernel)
    · exact hf (Cond.exactly (Term.string "QuarrelWays$Pad" 55) "java/lang/String") (by decide +kernel)
    · exact hf (Cond.exactly (Term.string "QuarrelWays$Pad" 57) "java/lang/String") (by decide +kernel)
    · exact hf (Cond.exactly (Term.string "QuarrelWays$Pad" 59) "java/lang/String") (by decide +kernel)
    · exact hf (Cond.exactly (Term.string "QuarrelWays$Pad" 61) "java/lang/String") (by decide +kernel)
  have sc : ∀ i : Nat, i < 7 → (Cond.eq (.field (Term.string "QuarrelWays$Pad" (49 + 2 * i)) "java/lang/String" "coder" "B") (.int 0)).before #[Value.ref b] s = true := by
    intro i hi
    rcases (show i = 0 ∨ i = 1 ∨ i = 2 ∨ i = 3 ∨ i = 4 ∨ i = 5 ∨ i = 6 by omega) with rfl | rfl | rfl | rfl | rfl | rfl | rfl
    · exact hf (Cond.eq (.field (Term.string "QuarrelWays$Pad" 49) "java/lang/String" "coder" "B") (.int 0)) (by decide +kernel)
    · exact hf (Cond.eq (.field (Term.string "QuarrelWays$Pad" 51) "java/lang/String" "coder" "B") (.int 0)) (by decide +kernel)
    · exact hf (Cond.eq (.field (Term.string "QuarrelWays$Pad" 53) "java/lang/String" "coder" "B") (.int 0)) (by decide +kernel)
    · exact hf (Cond.eq (.field (Term.string "QuarrelWays$Pad" 55) "java/lang/String" "coder" "B") (.int 0)) (by decide +kernel)
    · exact hf (Cond.eq (.field (Term.string "QuarrelWays$Pad" 57) "java/lang/String" "coder" "B") (.int 0)) (by decide +kernel)
    · exact hf (Cond.eq (.field (Term.string "QuarrelWays$Pad" 59) "java/lang/String" "coder" "B") (.int 0)) (by decide +kernel)
    · exact hf (Cond.eq (.field (Term.string "QuarrelWays$Pad" 61) "java/lang/String" "coder" "B") (.int 0)) (by decide +kernel)
  have sa : ∀ i : Nat, i < 7 → (Cond.arrayOf (.field (Term.string "QuarrelWays$Pad" (49 + 2 * i)) "java/lang/String" "value" "[B") .byte).before #[Value.ref b] s = true := by
    intro i hi
    rcases (show i = 0 ∨ i = 1 ∨ i = 2 ∨ i = 3 ∨ i = 4 ∨ i = 5 ∨ i = 6 by omega) with rfl | rfl | rfl | rfl | rfl | rfl | rfl
    · exact hf (Cond.arrayOf (.field (Term.string "QuarrelWays$Pad" 49) "java/lang/String" "value" "[B") .byte) (by decide +kernel)
    · exact hf (Cond.arrayOf (.field (Term.string "QuarrelWays$Pad" 51) "java/lang/String" "value" "[B") .byte) (by decide +kernel)
    · exact hf (Cond.arrayOf (.field (Term.string "QuarrelWays$Pad" 53) "java/lang/String" "value" "[B") .byte) (by decide +kernel)
    · exact hf (Cond.arrayOf (.field (Term.string "QuarrelWays$Pad" 55) "java/lang/String" "value" "[B") .byte) (by decide +kernel)
    · exact hf (Cond.arrayOf (.field (Term.string "QuarrelWays$Pad" 57) "java/lang/String" "value" "[B") .byte) (by decide +kernel)
    · exact hf (Cond.arrayOf (.field (Term.string "QuarrelWays$Pad" 59) "java/lang/String" "value" "[B") .byte) (by decide +kernel)
    · exact hf (Cond.arrayOf (.field (Term.string "QuarrelWays$Pad" 61) "java/lang/String" "value" "[B") .byte) (by decide +kernel)
  have sl : ∀ i : Nat, i < 7 → (Cond.eq (.length (.field (Term.string "QuarrelWays$Pad" (49 + 2 * i)) "java/lang/String" "value" "[B")) (.int (Int32.ofNat (sLen.getD i 0)))).before #[Value.ref b] s = true := by
    intro i hi
    rcases (show i = 0 ∨ i = 1 ∨ i = 2 ∨ i = 3 ∨ i = 4 ∨ i = 5 ∨ i = 6 by omega) with rfl | rfl | rfl | rfl | rfl | rfl | rfl
    · exact hf (Cond.eq (.length (.field (Term.string "QuarrelWays$Pad" 49) "java/lang/String" "value" "[B")) (.int 2)) (by decide +kernel)
    · exact hf (Cond.eq (.length (.field (Term.string "QuarrelWays$Pad" 51) "java/lang/String" "value" "[B")) (.int 3)) (by decide +kernel)
    · exact hf (Cond.eq (.length (.field (Term.string "QuarrelWays$Pad" 53) "java/lang/String" "value" "[B")) (.int 4)) (by decide +kernel)
    · exact hf (Cond.eq (.length (.field (Term.string "QuarrelWays$Pad" 55) "java/lang/String" "value" "[B")) (.int 3)) (by decide +kernel)
    · exact hf (Cond.eq (.length (.field (Term.string "QuarrelWays$Pad" 57) "java/lang/String" "value" "[B")) (.int 1)) (by decide +kernel)
    · exact hf (Cond.eq (.length (.field (Term.string "QuarrelWays$Pad" 59) "java/lang/String" "value" "[B")) (.int 1)) (by decide +kernel)
    · exact hf (Cond.eq (.length (.field (Term.string "QuarrelWays$Pad" 61) "java/lang/String" "value" "[B")) (.int 0)) (by decide +kernel)
  have se : ∀ i : Nat, i < 7 → ∀ j : Nat, j < sLen.getD i 0 → (Cond.eq (.elem (.field (Term.string "QuarrelWays$Pad" (49 + 2 * i)) "java/lang/String" "value" "[B") (.int (Int32.ofNat j))) (.int ((sByt.getD i []).getD j 0))).before #[Value.ref b] s = true := by
    intro i hi j hj
    rcases (show i = 0 ∨ i = 1 ∨ i = 2 ∨ i = 3 ∨ i = 4 ∨ i = 5 ∨ i = 6 by omega) with rfl | rfl | rfl | rfl | rfl | rfl | rfl
    · have hj : j < 2 := hj
      rcases (show j = 0 ∨ j = 1 by omega) with rfl | rfl
      · exact hf (Cond.eq (.elem (.field (Term.string "QuarrelWays$Pad" 49) "java/lang/String" "value" "[B") (.int 0)) (.int 100)) (by decide +kernel)
      · exact hf (Cond.eq (.elem (.field (Term.string "QuarrelWays$Pad" 49) "java/lang/String" "value" "[B") (.int 1)) (.int 100)) (by decide +kernel)
    · have hj : j < 3 := hj
      rcases (show j = 0 ∨ j = 1 ∨ j = 2 by omega) with rfl | rfl | rfl
      · exact hf (Cond.eq (.elem (.field (Term.string "QuarrelWays$Pad" 51) "java/lang/String" "value" "[B") (.int 0)) (.int 100)) (by decide +kernel)
      · exact hf (Cond.eq (.elem (.field (Term.string "QuarrelWays$Pad" 51) "java/lang/String" "value" "[B") (.int 1)) (.int 62)) (by decide +kernel)
      · exact hf (Cond.eq (.elem (.field (Term.string "QuarrelWays$Pad" 51) "java/lang/String" "value" "[B") (.int 2)) (.int 100)) (by decide +kernel)
    · have hj : j < 4 := hj
      rcases (show j = 0 ∨ j = 1 ∨ j = 2 ∨ j = 3 by omega) with rfl | rfl | rfl | rfl
      · exact hf (Cond.eq (.elem (.field (Term.string "QuarrelWays$Pad" 53) "java/lang/String" "value" "[B") (.int 0)) (.int 100)) (by decide +kernel)
      · exact hf (Cond.eq (.elem (.field (Term.string "QuarrelWays$Pad" 53) "java/lang/String" "value" "[B") (.int 1)) (.int 100)) (by decide +kernel)
      · exact hf (Cond.eq (.elem (.field (Term.string "QuarrelWays$Pad" 53) "java/lang/String" "value" "[B") (.int 2)) (.int 47)) (by decide +kernel)
      · exact hf (Cond.eq (.elem (.field (Term.string "QuarrelWays$Pad" 53) "java/lang/String" "value" "[B") (.int 3)) (.int 100)) (by decide +kernel)
    · have hj : j < 3 := hj
      rcases (show j = 0 ∨ j = 1 ∨ j = 2 by omega) with rfl | rfl | rfl
      · exact hf (Cond.eq (.elem (.field (Term.string "QuarrelWays$Pad" 55) "java/lang/String" "value" "[B") (.int 0)) (.int 110)) (by decide +kernel)
      · exact hf (Cond.eq (.elem (.field (Term.string "QuarrelWays$Pad" 55) "java/lang/String" "value" "[B") (.int 1)) (.int 46)) (by decide +kernel)
      · exact hf (Cond.eq (.elem (.field (Term.string "QuarrelWays$Pad" 55) "java/lang/String" "value" "[B") (.int 2)) (.int 100)) (by decide +kernel)
    · have hj : j < 1 := hj
      rcases (show j = 0 by omega) with rfl
      · exact hf (Cond.eq (.elem (.field (Term.string "QuarrelWays$Pad" 57) "java/lang/String" "value" "[B") (.int 0)) (.int 110)) (by decide +kernel)
    · have hj : j < 1 := hj
      rcases (show j = 0 by omega) with rfl
      · exact hf (Cond.eq (.elem (.field (Term.string "QuarrelWays$Pad" 59) "java/lang/String" "value" "[B") (.int 0)) (.int 100)) (by decide +kernel)
    · exact absurd (show j < 0 from hj) (Nat.not_lt_zero j)
  have sn : ∀ i j : Nat, i < 7 → j < 7 → i ≠ j → (Cond.not (Cond.eq (Term.string "QuarrelWays$Pad" (49 + 2 * i)) (Term.string "QuarrelWays$Pad" (49 + 2 * j)))).before #[Value.ref b] s = true ∨ (Cond.not (Cond.eq (Term.string "QuarrelWays$Pad" (49 + 2 * j)) (Term.string "QuarrelWays$Pad" (49 + 2 * i)))).before #[Value.ref b] s = true := by
    intro i j hi hj hij
    rcases (show i = 0 ∨ i = 1 ∨ i = 2 ∨ i = 3 ∨ i = 4 ∨ i = 5 ∨ i = 6 by omega) with rfl | rfl | rfl | rfl | rfl | rfl | rfl
    · rcases (show j = 0 ∨ j = 1 ∨ j = 2 ∨ j = 3 ∨ j = 4 ∨ j = 5 ∨ j = 6 by omega) with rfl | rfl | rfl | rfl | rfl | rfl | rfl
      · exact absurd rfl hij
      · exact Or.inl (hf (Cond.not (Cond.eq (Term.string "QuarrelWays$Pad" 49) (Term.string "QuarrelWays$Pad" 51))) (by decide +kernel))
      · exact Or.inl (hf (Cond.not (Cond.eq (Term.string "QuarrelWays$Pad" 49) (Term.string "QuarrelWays$Pad" 53))) (by decide +kernel))
      · exact Or.inl (hf (Cond.not (Cond.eq (Term.string "QuarrelWays$Pad" 49) (Term.string "QuarrelWays$Pad" 55))) (by decide +kernel))
      · exact Or.inl (hf (Cond.not (Cond.eq (Term.string "QuarrelWays$Pad" 49) (Term.string "QuarrelWays$Pad" 57))) (by decide +kernel))
      · exact Or.inl (hf (Cond.not (Cond.eq (Term.string "QuarrelWays$Pad" 49) (Term.string "QuarrelWays$Pad" 59))) (by decide +kernel))
      · exact Or.inl (hf (Cond.not (Cond.eq (Term.string "QuarrelWays$Pad" 49) (Term.string "QuarrelWays$Pad" 61))) (by decide +kernel))
    · rcases (show j = 0 ∨ j = 1 ∨ j = 2 ∨ j = 3 ∨ j = 4 ∨ j = 5 ∨ j = 6 by omega) with rfl | rfl | rfl | rfl | rfl | rfl | rfl
      · exact Or.inr (hf (Cond.not (Cond.eq (Term.string "QuarrelWays$Pad" 49) (Term.string "QuarrelWays$Pad" 51))) (by decide +kernel))
      · exact absurd rfl hij
      · exact Or.inl (hf (Cond.not (Cond.eq (Term.string "QuarrelWays$Pad" 51) (Term.string "QuarrelWays$Pad" 53))) (by decide +kernel))
      · exact Or.inl (hf (Cond.not (Cond.eq (Term.string "QuarrelWays$Pad" 51) (Term.string "QuarrelWays$Pad" 55))) (by decide +kernel))
      · exact Or.inl (hf (Cond.not (Cond.eq (Term.string "QuarrelWays$Pad" 51) (Term.string "QuarrelWays$Pad" 57))) (by decide +kernel))
      · exact Or.inl (hf (Cond.not (Cond.eq (Term.string "QuarrelWays$Pad" 51) (Term.string "QuarrelWays$Pad" 59))) (by decide +kernel))
      · exact Or.inl (hf (Cond.not (Cond.eq (Term.string "QuarrelWays$Pad" 51) (Term.string "QuarrelWays$Pad" 61))) (by decide +kernel))
    · rcases (show j = 0 ∨ j = 1 ∨ j = 2 ∨ j = 3 ∨ j = 4 ∨ j = 5 ∨ j = 6 by omega) with rfl | rfl | rfl | rfl | rfl | rfl | rfl
      · exact Or.inr (hf (Cond.not (Cond.eq (Term.string "QuarrelWays$Pad" 49) (Term.string "QuarrelWays$Pad" 53))) (by decide +kernel))
      · exact Or.inr (hf (Cond.not (Cond.eq (Term.string "QuarrelWays$Pad" 51) (Term.string "QuarrelWays$Pad" 53))) (by decide +kernel))
      · exact absurd rfl hij
      · exact Or.inl (hf (Cond.not (Cond.eq (Term.string "QuarrelWays$Pad" 53) (Term.string "QuarrelWays$Pad" 55))) (by decide +kernel))
      · exact Or.inl (hf (Cond.not (Cond.eq (Term.string "QuarrelWays$Pad" 53) (Term.string "QuarrelWays$Pad" 57))) (by decide +kernel))
      · exact Or.inl (hf (Cond.not (Cond.eq (Term.string "QuarrelWays$Pad" 53) (Term.string "QuarrelWays$Pad" 59))) (by decide +kernel))
      · exact Or.inl (hf (Cond.not (Cond.eq (Term.string "QuarrelWays$Pad" 53) (Term.string "QuarrelWays$Pad" 61))) (by decide +kernel))
    · rcases (show j = 0 ∨ j = 1 ∨ j = 2 ∨ j = 3 ∨ j = 4 ∨ j = 5 ∨ j = 6 by omega) with rfl | rfl | rfl | rfl | rfl | rfl | rfl
      · exact Or.inr (hf (Cond.not (Cond.eq (Term.string "QuarrelWays$Pad" 49) (Term.string "QuarrelWays$Pad" 55))) (by decide +kernel))
      · exact Or.inr (hf (Cond.not (Cond.eq (Term.string "QuarrelWays$Pad" 51) (Term.string "QuarrelWays$Pad" 55))) (by decide +kernel))
      · exact Or.inr (hf (Cond.not (Cond.eq (Term.string "QuarrelWays$Pad" 53) (Term.string "QuarrelWays$Pad" 55))) (by decide +kernel))
      · exact absurd rfl hij
      · exact Or.inl (hf (Cond.not (Cond.eq (Term.string "QuarrelWays$Pad" 55) (Term.string "QuarrelWays$Pad" 57))) (by decide +kernel))
      · exact Or.inl (hf (Cond.not (Cond.eq (Term.string "QuarrelWays$Pad" 55) (Term.string "QuarrelWays$Pad" 59))) (by decide +kernel))
      · exact Or.inl (hf (Cond.not (Cond.eq (Term.string "QuarrelWays$Pad" 55) (Term.string "QuarrelWays$Pad" 61))) (by decide +kernel))
    · rcases (show j = 0 ∨ j = 1 ∨ j = 2 ∨ j = 3 ∨ j = 4 ∨ j = 5 ∨ j = 6 by omega) with rfl | rfl | rfl | rfl | rfl | rfl | rfl
      · exact Or.inr (hf (Cond.not (Cond.eq (Term.string "QuarrelWays$Pad" 49) (Term.string "QuarrelWays$Pad" 57))) (by decide +kernel))
      · exact Or.inr (hf (Cond.not (Cond.eq (Term.string "QuarrelWays$Pad" 51) (Term.string "QuarrelWays$Pad" 57))) (by decide +kernel))
      · exact Or.inr (hf (Cond.not (Cond.eq (Term.string "QuarrelWays$Pad" 53) (Term.string "QuarrelWays$Pad" 57))) (by decide +kernel))
      · exact Or.inr (hf (Cond.not (Cond.eq (Term.string "QuarrelWays$Pad" 55) (Term.string "QuarrelWays$Pad" 57))) (by decide +kernel))
      · exact absurd rfl hij
      · exact Or.inl (hf (Cond.not (Cond.eq (Term.string "QuarrelWays$Pad" 57) (Term.string "QuarrelWays$Pad" 59))) (by decide +kernel))
      · exact Or.inl (hf (Cond.not (Cond.eq (Term.string "QuarrelWays$Pad" 57) (Term.string "QuarrelWays$Pad" 61))) (by decide +kernel))
    · rcases (show j = 0 ∨ j = 1 ∨ j = 2 ∨ j = 3 ∨ j = 4 ∨ j = 5 ∨ j = 6 by omega) with rfl | rfl | rfl | rfl | rfl | rfl | rfl
      · exact Or.inr (hf (Cond.not (Cond.eq (Term.string "QuarrelWays$Pad" 49) (Term.string "QuarrelWays$Pad" 59))) (by decide +kernel))
      · exact Or.inr (hf (Cond.not (Cond.eq (Term.string "QuarrelWays$Pad" 51) (Term.string "QuarrelWays$Pad" 59))) (by decide +kernel))
      · exact Or.inr (hf (Cond.not (Cond.eq (Term.string "QuarrelWays$Pad" 53) (Term.string "QuarrelWays$Pad" 59))) (by decide +kernel))
      · exact Or.inr (hf (Cond.not (Cond.eq (Term.string "QuarrelWays$Pad" 55) (Term.string "QuarrelWays$Pad" 59))) (by decide +kernel))
      · exact Or.inr (hf (Cond.not (Cond.eq (Term.string "QuarrelWays$Pad" 57) (Term.string "QuarrelWays$Pad" 59))) (by decide +kernel))
      · exact absurd rfl hij
      · exact Or.inl (hf (Cond.not (Cond.eq (Term.string "QuarrelWays$Pad" 59) (Term.string "QuarrelWays$Pad" 61))) (by decide +kernel))
    · rcases (show j = 0 ∨ j = 1 ∨ j = 2 ∨ j = 3 ∨ j = 4 ∨ j = 5 ∨ j = 6 by omega) with rfl | rfl | rfl | rfl | rfl | rfl | rfl
      · exact Or.inr (hf (Cond.not (Cond.eq (Term.string "QuarrelWays$Pad" 49) (Term.string "QuarrelWays$Pad" 61))) (by decide +kernel))
      · exact Or.inr (hf (Cond.not (Cond.eq (Term.string "QuarrelWays$Pad" 51) (Term.string "QuarrelWays$Pad" 61))) (by decide +kernel))
      · exact Or.inr (hf (Cond.not (Cond.eq (Term.string "QuarrelWays$Pad" 53) (Term.string "QuarrelWays$Pad" 61))) (by decide +kernel))
      · exact Or.inr (hf (Cond.not (Cond.eq (Term.string "QuarrelWays$Pad" 55) (Term.string "QuarrelWays$Pad" 61))) (by decide +kernel))
      · exact Or.inr (hf (Cond.not (Cond.eq (Term.string "QuarrelWays$Pad" 57) (Term.string "QuarrelWays$Pad" 61))) (by decide +kernel))
      · exact Or.inr (hf (Cond.not (Cond.eq (Term.string "QuarrelWays$Pad" 59) (Term.string "QuarrelWays$Pad" 61))) (by decide +kernel))
      · exact absurd rfl hij
  obtain ⟨adK, adV, hS1, hS2⟩ := vk_Sof (N := 7) (tm := fun i => (Term.string "QuarrelWays$Pad" (49 + 2 * i))) (len := sLen) (byt := sByt) (by decide) sx sc sa sl se sn hA0
  have etL : ∀ j : Nat, j < 4 → (Term.elem (Term.static "QuarrelWays$Town" "LOWEST" "[I") (.int (Int32.ofNat j))).eval #[Value.ref b] s none [] s = some (.int (lowB j)) := by
    intro j hj
    rcases (show j = 0 ∨ j = 1 ∨ j = 2 ∨ j = 3 by omega) with rfl | rfl | rfl | rfl
    · exact va_eqt (hf (Cond.eq (.elem (Term.static "QuarrelWays$Town" "LOWEST" "[I") (.int 0)) (.int 1)) (by decide +kernel))
    · exact va_eqt (hf (Cond.eq (.elem (Term.static "QuarrelWays$Town" "LOWEST" "[I") (.int 1)) (.int 0)) (by decide +kernel))
    · exact va_eqt (hf (Cond.eq (.elem (Term.static "QuarrelWays$Town" "LOWEST" "[I") (.int 2)) (.int 1)) (by decide +kernel))
    · exact va_eqt (hf (Cond.eq (.elem (Term.static "QuarrelWays$Town" "LOWEST" "[I") (.int 3)) (.int 0)) (by decide +kernel))
  obtain ⟨tL, vtL, TtL⟩ := va_Tof (tm := (Term.static "QuarrelWays$Town" "LOWEST" "[I")) (ty := .int) (N := 4) (f := fun j => .int (lowB j)) (by decide) (hf (Cond.arrayOf (Term.static "QuarrelWays$Town" "LOWEST" "[I") .int) (by decide +kernel)) (va_eqt (hf (Cond.eq (.length (Term.static "QuarrelWays$Town" "LOWEST" "[I")) (.int 4)) (by decide +kernel))) etL hA0
  have etH : ∀ j : Nat, j < 4 → (Term.elem (Term.static "QuarrelWays$Town" "HIGHEST" "[I") (.int (Int32.ofNat j))).eval #[Value.ref b] s none [] s = some (.int (highB j)) := by
    intro j hj
    rcases (show j = 0 ∨ j = 1 ∨ j = 2 ∨ j = 3 by omega) with rfl | rfl | rfl | rfl
    · exact va_eqt (hf (Cond.eq (.elem (Term.static "QuarrelWays$Town" "HIGHEST" "[I") (.int 0)) (.int 48)) (by decide +kernel))
    · exact va_eqt (hf (Cond.eq (.elem (Term.static "QuarrelWays$Town" "HIGHEST" "[I") (.int 1)) (.int 99)) (by decide +kernel))
    · exact va_eqt (hf (Cond.eq (.elem (Term.static "QuarrelWays$Town" "HIGHEST" "[I") (.int 2)) (.int 200)) (by decide +kernel))
    · exact va_eqt (hf (Cond.eq (.elem (Term.static "QuarrelWays$Town" "HIGHEST" "[I") (.int 3)) (.int 400)) (by decide +kernel))
  obtain ⟨tH, vtH, TtH⟩ := va_Tof (tm := (Term.static "QuarrelWays$Town" "HIGHEST" "[I")) (ty := .int) (N := 4) (f := fun j => .int (highB j)) (by decide) (hf (Cond.arrayOf (Term.static "QuarrelWays$Town" "HIGHEST" "[I") .int) (by decide +kernel)) (va_eqt (hf (Cond.eq (.length (Term.static "QuarrelWays$Town" "HIGHEST" "[I")) (.int 4)) (by decide +kernel))) etH hA0
  have i2 : (Cond.initialized "QuarrelWays$Town").before #[Value.ref b] s = true := (hts _ (List.mem_append_right _ (List.mem_append_left _ (List.mem_of_getElem? (i := 2) rfl))))
  refine ⟨(adK, adV, tL, tH), st_NN (L := L) (xs := xs) hts, hS1, ?_, ?_, ?_, ⟨va_Zof (hts _ (List.mem_append_right _ (List.mem_append_left _ (List.mem_of_getElem? (i := 147) rfl)))) i2 vtL hA0, TtL⟩, va_Zof (hts _ (List.mem_append_right _ (List.mem_append_left _ (List.mem_of_getElem? (i := 149) rfl)))) i2 vtH hA0, TtH⟩
  · intro i hi
    have h2 := hS2 i hi
    rcases (show i = 0 ∨ i = 1 ∨ i = 2 ∨ i = 3 ∨ i = 4 ∨ i = 5 ∨ i = 6 by omega) with rfl | rfl | rfl | rfl | rfl | rfl | rfl
    · exact vk_R.of (A := #[Value.ref b]) (hts _ (List.mem_append_right _ (List.mem_append_right _ (List.mem_append_right _ (List.mem_append_left _ (List.mem_of_getElem? (i := 12) rfl)))))) h2
    · exact vk_R.of (A := #[Value.ref b]) (hts _ (List.mem_append_right _ (List.mem_append_right _ (List.mem_append_right _ (List.mem_append_left _ (List.mem_of_getElem? (i := 13) rfl)))))) h2
    · exact vk_R.of (A := #[Value.ref b]) (hts _ (List.mem_append_right _ (List.mem_append_right _ (List.mem_append_right _ (List.mem_append_left _ (List.mem_of_getElem? (i := 14) rfl)))))) h2
    · exact vk_R.of (A := #[Value.ref b]) (hts _ (List.mem_append_right _ (List.mem_append_right _ (List.mem_append_right _ (List.mem_append_left _ (List.mem_of_getElem? (i := 15) rfl)))))) h2
    · exact vk_R.of (A := #[Value.ref b]) (hts _ (List.mem_append_right _ (List.mem_append_right _ (List.mem_append_right _ (List.mem_append_left _ (List.mem_of_getElem? (i := 16) rfl)))))) h2
    · exact vk_R.of (A := #[Value.ref b]) (hts _ (List.mem_append_right _ (List.mem_append_right _ (List.mem_append_right _ (List.mem_append_left _ (List.mem_of_getElem? (i := 17) rfl)))))) h2
    · exact vk_R.of (A := #[Value.ref b]) (hts _ (List.mem_append_right _ (List.mem_append_right _ (List.mem_append_right _ (List.mem_append_left _ (List.mem_of_getElem? (i := 18) rfl)))))) h2
  · exact va_Zof (hts _ (List.mem_append_right _ (List.mem_append_right _ (List.mem_append_right _ (List.mem_append_left _ (List.mem_of_getElem? (i := 32) rfl)))))) (hts _ (List.mem_append_right _ (List.mem_append_left _ (List.mem_of_getElem? (i := 9) rfl)))) (va_eqt (hf (Cond.eq (.static "java/lang/String" "COMPACT_STRINGS" "Z") (.int 1)) (by decide +kernel))) hA0
  · exact va_Zqof (hts _ (List.mem_append_right _ (List.mem_append_right _ (List.mem_append_right _ (List.mem_append_left _ (List.mem_of_getElem? (i := 48) rfl)))))) (hts _ (List.mem_append_right _ (List.mem_append_left _ (List.mem_of_getElem? (i := 11) rfl)))) (hf (Cond.isRef (.static "jdk/internal/util/Preconditions" "SIOOBE_FORMATTER" "Ljava/util/function/BiFunction;")) (by decide +kernel)) hA0
set_option maxHeartbeats 8000000 in
set_option maxRecDepth 100000 in
theorem start_of (J : JT) (hst : Steps J) (hi : St_init J) {b L : Nat} {xs : Nat → Int32} (hL : L ≤ 2048) (C0 : lw_At p s m meth c b L xs) : W p l e room_1 s m #[Value.ref b] below meth c s.heap [] 0 0 (lw_Z below #[Value.ref b] s) (entryFrame m ([Value.ref b] : List Value).toArray 4) := by
  obtain ⟨hx, hb, hr, hml, hown, hts, hX, hbl, hlocks, hgv⟩ := id C0
  have hA : ∀ q : Nat, s.heap.size ≤ q → (fun q : Nat => s.heap.size ≤ q) q := fun _ h => h
  have hbA : ¬ (fun q : Nat => s.heap.size ≤ q) b := Nat.not_le.mpr hbl
  obtain ⟨c0, iS0, hKn0⟩ := u_known (C := RX0) (T := TX0) (N := 3) (n := 3) hts (fun w h => BW_in w (iw_X0 w h)) (hts _ (List.mem_append_right _ (List.mem_append_left _ (List.mem_of_getElem? (i := 53) rfl))))
  obtain ⟨c1, iS1, hKn1⟩ := u_known (C := RX1) (T := TX1) (N := 6) (n := 6) hts (fun w h => BW_in w (iw_X1 w h)) (hts _ (List.mem_append_right _ (List.mem_append_left _ (List.mem_of_getElem? (i := 73) rfl))))
  obtain ⟨c2, iS2, hKn2⟩ := u_known (C := RX2) (T := TX2) (N := 6) (n := 6) hts (fun w h => BW_in w (iw_X2 w h)) (hts _ (List.mem_append_right _ (List.mem_append_left _ (List.mem_of_getElem? (i := 22) rfl))))
  obtain ⟨c3, iS3, hKn3⟩ := u_known (C := RX3) (T := TX3) (N := 4) (n := 4) hts (fun w h => BW_in w (iw_X3 w h)) (hts _ (List.mem_append_right _ (List.mem_append_left _ (List.mem_of_getElem? (i := 14) rfl))))
  obtain ⟨c4, iS4, hKn4⟩ := u_known (C := RX4) (T := TX4) (N := 10) (n := 10) hts (fun w h => BW_in w (iw_X4 w h)) (hts _ (List.mem_append_right _ (List.mem_append_right _ (List.mem_append_right _ (List.mem_append_left _ (List.mem_of_getElem? (i := 126) rfl))))))
  obtain ⟨dC, dI, hKc⟩ : ∃ (dC : Nat → ClassId) (dI : Nat → Nat → Nat), ∀ (k : Nat) (q : vw_C), vwCl[k]? = some q → u_Kn s q.1 q.2.1 q.2.2 (dC k) (dI k) := by
    refine ⟨fun k => if k = 0 then c0 else if k = 1 then c1 else if k = 2 then c2 else if k = 3 then c3 else c4, fun k => if k = 0 then iS0 else if k = 1 then iS1 else if k = 2 then iS2 else if k = 3 then iS3 else iS4, ?_⟩
    intro k q hq
    match k, hq with
    | 0, hq => cases hq; exact hKn0
    | 1, hq => cases hq; exact hKn1
    | 2, hq => cases hq; exact hKn2
    | 3, hq => cases hq; exact hKn3
    | 4, hq => cases hq; exact hKn4
    | k + 5, hq => simp [vwCl] at hq
  obtain ⟨cI, cZ, cT, hK⟩ := st_K (L := L) (xs := xs) hts dC dI hKc
  obtain ⟨G, hE⟩ := st_E (L := L) (xs := xs) hts hgv
  have hE2 : q_C s := ⟨hE.1, st_AO (L := L) (xs := xs) hts⟩
  have hS : va_S (fun q : Nat => s.heap.size ≤ q) s.heap s.heap [] := va_S.rf
  have hP : va_P (dC, dI) vwCl [] s.heap := fun k q h => by simp at h
  have hD : va_D (fun q : Nat => s.heap.size ≤ q) [] := ⟨fun i j p q h => by simp at h, fun k q h => by simp at h⟩
  have hl := lv_entry ([.ref b]) (n := 4) (Nat.le_of_ble_eq_true rfl)
  rw [lg_entry_eq]
  generalize (lg_sl ([.ref b]) ++ List.replicate (4 - (lg_sl ([.ref b])).length) Slot.unset).toArray = ls at hl ⊢
  have hl : lv_has ls 4 [(0, .ref b)] := hl
  have hbw : ∀ w ∈ BW, w.before #[Value.ref b] s = true := fun w h => hts w (BW_in w h)
  have hF : CallFix p m c code 4 s #[Value.ref b] BW RL := ⟨hx, hb, hml, hown, hbw⟩
  obtain ⟨t0, m0, ht0, hm0, hJ0⟩ := hi
  refine va_new (own := RL) (ci := 3) (fs := [.null, .null, .null, .null]) (C := RX3) (T := TX3) (N := 4) hx hb hbw iw_X3 tyX3 tyX3_ok hown (hbw _ mw_622) (hbw _ mw_623) (hbw _ mw_51) hK hP hD hS hA rfl (fun j hj => by rcases (show j = 0 ∨ j = 1 ∨ j = 2 ∨ j = 3 by omega) with rfl | rfl | rfl | rfl <;> rfl) (Nat.le_of_ble_eq_true rfl) (Nat.le_of_ble_eq_true rfl) dL_law_0 (fun w H hP hD hS => ?_)
  refine lv_dup hx hb dL_law_3 rfl ?_
  have hP : va_P (dC, dI) vwCl ([] ++ [(w, .inr (3, [.null, .null, .null, .null]))]) H := hP
  have hD : va_D (fun q : Nat => s.heap.size ≤ q) ([] ++ [(w, .inr (3, [.null, .null, .null, .null]))]) := hD
  refine x_I (As := []) (rest := [.ref w]) (wr := []) (wc := [(w, .inr (3, [.null, .null, .null, .null]))]) hF (c_X3_init l (dC, dI) cI cZ cT _ w t0 ht0) (cwI 0 hbw (gq mw_317) rfl rfl rfl (hbw _ mw_51) (hbw _ mw_627) (hbw _ mw_628) rfl hd_X3_init.2 ⟨Nat.le_of_ble_eq_true rfl, Nat.le_of_ble_eq_true rfl⟩) hK hP hD hS hA q_C_bl (q_C_go hE2) rfl hl.1 rfl (Nat.le_of_ble_eq_true rfl) dL_law_4 ⟨Nat.le_of_ble_eq_true rfl, Nat.le_of_ble_eq_true rfl⟩ (fun u H locs hP hD hS => ?_)
  obtain ⟨⟨o, a⟩, hs, ⟨hst_, ta, ca⟩, pd, ⟨sg, nm⟩, sl⟩ := u
  have hP : va_P (dC, dI) vwCl ((wX w o hs pd sl) ++ (wT cI o a t0) ++ (wH cI cT hs hst_ ta ca (0, 0, fun _ => t0)) ++ (wPd cI pd sg nm pd0) ++ [(sl, .inl (cT, 2, .inr (.inr (.inr (.inr (fun _ => none))))))]) H := hP
  have hD : va_D (fun q : Nat => s.heap.size ≤ q) ((wX w o hs pd sl) ++ (wT cI o a t0) ++ (wH cI cT hs hst_ ta ca (0, 0, fun _ => t0)) ++ (wPd cI pd sg nm pd0) ++ [(sl, .inl (cT, 2, .inr (.inr (.inr (.inr (fun _ => none))))))]) := hD
  refine lv_astore_n (lv' := [(1, .ref w), (0, .ref b)]) hx hb dL_law_7 rfl hl (by decide) rfl (fun ls hl => ?_)
  refine va_new (own := RL) (ci := 4) (fs := [.null, .null, .null, .int 0, .null, .null, .null, .int 0, .int 0, .int 0]) (C := RX4) (T := TX4) (N := 10) hx hb hbw iw_X4 tyX4 tyX4_ok hown (hbw _ mw_624) (hbw _ mw_625) (hbw _ mw_428) hK hP hD hS hA rfl (fun j hj => by rcases (show j = 0 ∨ j = 1 ∨ j = 2 ∨ j = 3 ∨ j = 4 ∨ j = 5 ∨ j = 6 ∨ j = 7 ∨ j = 8 ∨ j = 9 by omega) with rfl | rfl | rfl | rfl | rfl | rfl | rfl | rfl | rfl | rfl <;> rfl) (Nat.le_of_ble_eq_true rfl) (Nat.le_of_ble_eq_true rfl) dL_law_8 (fun mo H hP hD hS => ?_)
  refine lv_dup hx hb dL_law_11 rfl ?_
  refine x_I (As := []) (rest := [.ref mo]) (wr := (wX w o hs pd sl) ++ (wT cI o a t0) ++ (wH cI cT hs hst_ ta ca (0, 0, fun _ => t0)) ++ (wPd cI pd sg nm pd0) ++ [(sl, .inl (cT, 2, .inr (.inr (.inr (.inr (fun _ => none))))))]) (wc := [(mo, .inr (4, [.null, .null, .null, .int 0, .null, .null, .null, .int 0, .int 0, .int 0]))]) hF (c_X4_init l (dC, dI) cI cZ cT _ mo m0 hm0) (cwI 0 hbw (gq mw_412) rfl rfl rfl (hbw _ mw_428) (hbw _ mw_629) (hbw _ mw_630) rfl hd_X4_init.2 ⟨Nat.le_of_ble_eq_true rfl, Nat.le_of_ble_eq_true rfl⟩) hK hP hD hS hA q_T_bl (fun _ _ _ => (trivial : True)) rfl hl.1 rfl (Nat.le_of_ble_eq_true rfl) dL_law_12 ⟨Nat.le_of_ble_eq_true rfl, Nat.le_of_ble_eq_true rfl⟩ (fun bm H locs hP hD hS => ?_)
  refine lv_astore_n (lv' := [(2, .ref mo), (1, .ref w), (0, .ref b)]) hx hb dL_law_15 rfl hl (by decide) rfl (fun ls hl => ?_)
  refine lv_iconst (v := 0) hx hb dL_law_16 (by decide) ?_
  refine lv_istore_n (lv' := [(3, .int 0), (2, .ref mo), (1, .ref w), (0, .ref b)]) hx hb dL_law_17 rfl hl (by decide) rfl (fun ls hl => ?_)
  have hP := hP.cg (k := 22) (fun j => if j = 0 then adr none else adr none) rfl (fun j hj => by rcases (show j = 0 ∨ j = 1 by omega) with rfl | rfl <;> rfl)
  have hD := hD.set (p := 22) (e := .inl (cT, 2, .inr (.inr (.inr (.inr (fun j => if j = 0 then adr none else adr none)))))) rfl
  have hP : va_P (dC, dI) vwCl (((wX w o hs pd sl) ++ (wT cI o a t0) ++ (wH cI cT hs hst_ ta ca (0, 0, fun _ => t0)) ++ (wPd cI pd sg nm pd0)) ++ (wSl cI cT sl none none) ++ (wM cI cZ mo bm m0)) H := hP
  have hD : va_D (fun q : Nat => s.heap.size ≤ q) (((wX w o hs pd sl) ++ (wT cI o a t0) ++ (wH cI cT hs hst_ ta ca (0, 0, fun _ => t0)) ++ (wPd cI pd sg nm pd0)) ++ (wSl cI cT sl none none) ++ (wM cI cZ mo bm m0)) := hD
  exact law_loop (G := G) J hst hL rfl ⟨hx, hb, hr, hml, hown, hbw, hlocks⟩ hK hA hE hX hbl hbA w sl o a hs hst_ ta ca pd sg nm mo bm 513 0 (by omega) (by omega) none none t0 (0, 0, fun _ => t0) pd0 m0 hJ0 H _ ls hP hD hS (lv_sub hl [3, 2, 1, 0] rfl)
end G_LZ

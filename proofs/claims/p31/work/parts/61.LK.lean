/-! the row of the script, and calls that write and take no receiver -/
section G_LK
variable {p : Program} {l : Launch} {e : Env} {s : State} {m : MethodId} {args : Array Value} {below : List Frame} {meth : Method} {c : Code} {D : va_G} {cI cZ cT : ClassId}
variable {R : Room} {H : Heap} {locs : List Loc} {cells slots : Nat} {Q : State → Prop} {cc : ByteArray} {pc : Nat} {ls : Array Slot} {rest st0 As : List Value} {A : Nat → Prop} {tys : List (ClassId × FieldType)} {W0 W1 wc wr w1 : va_W} {H0 : Heap} {own : String} {index nL n maxL : Nat} {y : MethodName} {bytes : ByteArray} {ret9 : Option FieldType} {w Ts : List Cond} {rm : Room} {v : Int32} {E : State → Prop}
theorem x_MSp (S : CallFix p m c cc nL s args Ts own) (hM : Met l y w rm (q_M D tys H.size wc E As) (va_Qi (fun r _ => r = v) (q_B D wc H.size w1) (va_A wc H.size)) 0 0 (va_A wc H.size)) (cw : CallB R s args own index y bytes maxL ret9 w rm 0 0 n ∧ (Cond.static y).before args s = true) (hK : va_K D vwCl tys s) (hP : va_P D vwCl W0 H) (hD : va_D A W0) (hS : va_S A H0 H locs) (hA : ∀ q, H0.size ≤ q → A q) (hEb : q_Bl E) (hE : ∀ U : State, U.heap = H → s.WarmedH U.vm → E U)
    (hs : W0.Perm (wr ++ wc)) (hp : (wr ++ w1).Perm W1)
    (hn : As.length = n) (hl : ls.size = nL) (hst : st0 = As.reverse ++ rest) (hW : (rest.map fun v => v.category).sum ≤ 8) (hdg : decode cc pc = .ok (.invokestatic index, 3)) (hf : cells ≤ R.cells ∧ slots ≤ R.slots)
    (kk : ∀ (H1 : Heap) (locs1 : List Loc), va_P D vwCl W1 H1 → va_D A W1 → va_S A H0 H1 locs1 → W p l e R s m args below meth c H1 locs1 cells slots Q (F0 m (pc + 3) ls (.int v :: rest))) : W p l e R s m args below meth c H locs cells slots Q (F0 m pc ls st0) := by
  have hPs := hP.perm hs
  have hDs := hD.perm hs
  have hPc : va_P D vwCl wc H := hPs.right
  have hDc : va_D A wc := hDs.right
  have hFc := q_freep hs hD hS hA
  refine va_calli (mc := 0) (ms := 0) (va_runS (g := F0 m pc ls st0) S hM cw ⟨q_M_blind hEb, fun U hU hW => ⟨rfl, by rw [hU], by rw [hU]; exact hPc, va_K.moved hW.alike hK, hDc.weaken (fun _ _ _ _ => trivial), hE U hU hW⟩⟩ rfl hn hl hst (lv_room hW) hdg hf) hS (fun q _ h => hFc q h) hFc (fun r u t H1 locs1 ht hvm hw hB hz1 hk1 hS1 => ?_)
  obtain ⟨hP1, hD1⟩ := hB
  rw [ht] at hP1
  obtain ⟨hP2, hD2⟩ := va_joinp hPs hDs hk1 hFc hP1 hD1
  rw [hw]
  exact kk H1 locs1 (hP2.perm hp) (hD2.perm hp) hS1
def q_X (b L : Nat) (xs : Nat → Int32) (U : State) : Prop := va_X b L xs U U.heap ∧ b < U.heap.size
theorem q_X_bl {b L : Nat} {xs : Nat → Int32} : q_Bl (q_X b L xs) := fun a U g mk h => ⟨va_X.moved (u := U) (U := U.calling g mk a) (Vm.Alike.refl U.vm) h.1, h.2⟩
theorem q_X_go {b L : Nat} {xs : Nat → Int32} {A : Nat → Prop} (hX : va_X b L xs s s.heap) (hbl : b < s.heap.size) (hS : va_S A s.heap H locs) (hbA : ¬ A b) : ∀ U : State, U.heap = H → s.WarmedH U.vm → q_X b L xs U := by
  intro U hU hW
  have h1 := (va_X.kept (H1 := H) hX (hS.2.1 b hbl hbA)).moved (U := U) hW.alike
  rw [← hU] at h1
  obtain ⟨scr, e1, r⟩ := id h1
  exact ⟨h1, (Array.getElem?_eq_some_iff.mp e1).1⟩
def cellv (L : Nat) (xs : Nat → Int32) (k : Nat) : Int32 := if k < L then xs k else (7919 * (nI k + 3)) * (nI k + 11)
abbrev rm_L_cell : Room := { frames := 0, cells := 0, slots := 0, locals := 0 }
theorem hd_L_cell : yL_cell.cls = RL ∧ yL_cell.cls ≠ "java/lang/invoke/MethodHandle" ∧ yL_cell.cls ≠ "java/lang/invoke/VarHandle" ∧ (parseMethodDescriptor yL_cell.desc).map (fun d => d.parameters.length) = some 2 := by decide +kernel
set_option maxHeartbeats 4000000 in
set_option maxRecDepth 100000 in
theorem c_L_cell (l : Launch) (D : va_G) (cI cZ cT : ClassId) (b L : Nat) (xs : Nat → Int32) (hL : L ≤ 260) (k : Nat) (hk : k < 100) : Met l yL_cell (wq yL_cell cL_cell 2 (some .int)) rm_L_cell (q_R D (q_tys cI cZ cT) [] (q_X b L xs) [.ref b, .int (nI k)]) (vp_Si (fun r' => r' = cellv L xs k)) 0 0 (fun _ => False) := by
  refine q_RI (cc := cL_cell) (maxL := 2) (ret := (some .int)) (plainFor_of_name (by decide)) (Nat.le_of_ble_eq_true rfl) (fun p e s m below meth c C0 hP hK hE ls hl => ?_)
  have hl : lv_has ls 2 [(0, .ref b), (1, .int (nI k))] := hl
  obtain ⟨hx, hb, hr, hml, hown, hts, hlocks⟩ := id C0
  obtain ⟨hX, hbl⟩ := hE
  have hS : va_S (fun q : Nat => s.heap.size ≤ q) s.heap s.heap [] := va_S.rf
  have hbA : ¬ (fun q : Nat => s.heap.size ≤ q) b := Nat.not_le.mpr hbl
  refine lv_iload_n hx hb dL_cell_0 rfl (lv_at hl 1 rfl) ?_
  refine lv_aload_n hx hb dL_cell_1 rfl (lv_at hl 0 rfl) ?_
  refine va_slen hx hb hX hbl hbA hS dL_cell_2 ?_
  refine lv_icmp_ge (tgt := 12) hx hb dL_cell_3 (by decide) (fun c9 => ?_) (fun c9 => ?_)
  · have h9 : ¬ k < L := fun h => nI_ge h (by omega) c9
    rw [show cellv L xs k = (7919 * (nI k + 3)) * (nI k + 11) from if_neg h9]
    refine lv_sipush (v := 7919) hx hb dL_cell_12 (by decide) ?_
    refine lv_iload_n hx hb dL_cell_15 rfl (lv_at hl 1 rfl) ?_
    refine lv_iconst (v := 3) hx hb dL_cell_16 (by decide) ?_
    refine lv_iadd hx hb dL_cell_17 ?_
    refine lv_imul hx hb dL_cell_18 ?_
    refine lv_iload_n hx hb dL_cell_19 rfl (lv_at hl 1 rfl) ?_
    refine lv_bipush (v := 11) hx hb dL_cell_20 (by decide) ?_
    refine lv_iadd hx hb dL_cell_22 ?_
    refine lv_imul hx hb dL_cell_23 ?_
    exact x_retR C0 rfl dL_cell_24
  · have h9 : k < L := Nat.lt_of_not_le (fun h => c9 (nI_le h (by omega)))
    rw [show cellv L xs k = xs k from if_pos h9]
    refine lv_aload_n hx hb dL_cell_6 rfl (lv_at hl 0 rfl) ?_
    refine lv_iload_n hx hb dL_cell_7 rfl (lv_at hl 1 rfl) ?_
    refine va_sld hx hb hX hbl hbA hS (vp_in_nI h9 (by omega)) dL_cell_8 ?_
    rw [nI_clamp (show k < 2 ^ 31 by omega)]
    refine lv_goto (tgt := 24) hx hb dL_cell_9 (by decide) ?_
    exact x_retR C0 rfl dL_cell_24
end G_LK

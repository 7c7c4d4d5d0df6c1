/-! what lies outside the worlds: links of nest mates, the two rows of limits -/
abbrev q_G : Type := (Nat → Nat) × (Nat → Nat) × Nat × Nat
def lowB (j : Nat) : Int32 := ([1, 0, 1, 0] : List Int32).getD j 0
def highB (j : Nat) : Int32 := ([48, 99, 200, 400] : List Int32).getD j 0
def nestM : List (String × Nat × MethodName) := [(RX0, 22, yX2_init), (RX0, 27, yX2_become), (RX0, 31, yX3_isError), (RX3, 9, yX2_init), (RX3, 18, yX0_init), (RX3, 25, yX1_init), (RX3, 34, yX0_note), (RX3, 38, yX2_changeSetting), (RX3, 42, yX0_keepUnlessError), (RX3, 46, yX2_addPerson), (RX3, 49, yX2_takeSecond), (RX3, 52, yX2_allowOrBar), (RX3, 55, yX2_addQuarrel), (RX3, 59, yX2_settleBy), (RX3, 62, yX2_duel), (RX3, 65, yX2_takeOath), (RX3, 68, yX2_moveOn), (RX3, 75, yX2_dueQuarrels), (RX3, 84, yX2_tellPerson), (RX3, 87, yX2_tellQuarrel), (RX3, 90, yX2_tellEvent), (RX3, 93, yX2_quarrelThatPresses), (RX3, 96, yX2_insultsFrom), (RX3, 106, yX2_tellNumber), (RX3, 109, yX2_hasQuarrel), (RX3, 112, yX2_waysOf), (RX3, 115, yX2_whyNotDue), (RX3, 118, yX2_firstOf), (RX3, 121, yX2_isOpen), (RX3, 124, yX2_hoursUntilWay), (RX3, 127, yX2_hoursUntilDuel), (RX3, 130, yX2_errorOfInsult), (RX3, 133, yX2_waysBetween), (RX3, 137, yX2_winnerOf), (RX3, 164, yX0_goBack)]
def nestF : List (String × Nat × String × String × String) := [(RX3, 99, "QuarrelWays$Pad", "length", "I"), (RX3, 103, "QuarrelWays$History", "size", "I")]
def q_NN (U : State) : Prop := (∀ q ∈ nestM, va_Nw (.methodLinkNest q.1 q.2.1 q.2.2 "QuarrelWays") U) ∧ ∀ q ∈ nestF, va_Nw (.fieldLinkNest q.1 q.2.1 q.2.2.1 q.2.2.2.1 q.2.2.2.2 "QuarrelWays") U
def q_GS (G : q_G) (A : Nat → Prop) (U : State) (H : Heap) : Prop :=
  True ∧ True ∧ True ∧ True ∧
  (va_Z "QuarrelWays$Town" "LOWEST" "[I" (.ref G.2.2.1) A U H ∧ va_T .int G.2.2.1 4 (fun j => .int (lowB j)) A U H) ∧ va_Z "QuarrelWays$Town" "HIGHEST" "[I" (.ref G.2.2.2) A U H ∧ va_T .int G.2.2.2 4 (fun j => .int (highB j)) A U H
def q_E (G : q_G) (A : Nat → Prop) (U : State) : Prop := q_NN U ∧ q_GS G A U U.heap
theorem q_E_go {G : q_G} {A B : Nat → Prop} {s : State} {H : Heap} {locs : List Loc} (h : q_E G A s) (hS : va_S A s.heap H locs) (hB : ∀ q, B q → A q) : ∀ U : State, U.heap = H → s.WarmedH U.vm → q_E G B U := by
  intro U hU hW
  obtain ⟨⟨n1, n2⟩, g1, g2, g3, g4, ⟨g5, g6⟩, g7, g8⟩ := h
  have hv := hW.alike
  refine ⟨⟨fun q hq => (n1 q hq).warmM hW, fun q hq => (n2 q hq).warmF hW⟩, ?_⟩
  rw [hU]
  exact ⟨g1, g2, g3, g4, ⟨((g5.kept hS.2.1).narrow hB).moved hv, ((g6.kept hS.2.1).narrow hB).moved hv⟩, ((g7.kept hS.2.1).narrow hB).moved hv, ((g8.kept hS.2.1).narrow hB).moved hv⟩
theorem q_E_bl {G : q_G} {A : Nat → Prop} : q_Bl (q_E G A) := by
  intro a U g mk h
  obtain ⟨⟨n1, n2⟩, g1, g2, g3, g4, ⟨g5, g6⟩, g7, g8⟩ := h
  have hv : U.vm.Alike (U.calling g mk a).vm := Vm.Alike.refl U.vm
  exact ⟨⟨fun q hq => (n1 q hq).same rfl rfl, fun q hq => (n2 q hq).same rfl rfl⟩, g1, g2, g3, g4, ⟨g5.moved hv, g6.moved hv⟩, g7.moved hv, g8.moved hv⟩
theorem nM_of {s : State} {G : q_G} {A : Nat → Prop} (h : q_E G A s) (k : Nat) {q : String × Nat × MethodName} (hk : nestM[k]? = some q) : va_Nw (.methodLinkNest q.1 q.2.1 q.2.2 "QuarrelWays") s := h.1.1 q (List.mem_of_getElem? hk)
theorem nF_of {s : State} {G : q_G} {A : Nat → Prop} (h : q_E G A s) {args : Array Value} (k : Nat) {q : String × Nat × String × String × String} (hk : nestF[k]? = some q) : (Cond.fieldLinkNest q.1 q.2.1 q.2.2.1 q.2.2.2.1 q.2.2.2.2 "QuarrelWays").before args s = true := va_Nw.use rfl (h.1.2 q (List.mem_of_getElem? hk))
/-! rows for nest mates, answers that are references, String constants -/
def inb (i : Int32) (n : Nat) : Option Int32 := if i < 0 ∨ n ≤ i.toNatClampNeg then none else some i
theorem inb_e {n : Nat} {i v : Int32} (h : inb i n = some v) : vp_in i n ∧ i = v := by
  unfold inb at h
  by_cases c : i < 0 ∨ n ≤ i.toNatClampNeg
  · rw [if_pos c] at h; cases h
  · rw [if_neg c] at h; exact ⟨c, Option.some.inj h⟩
def gn (ty : FieldType) (v : Int32) : Option Int32 := if narrow ty (.int v) = .int v then some v else none
theorem gn_e {ty : FieldType} {v r : Int32} (h : gn ty v = some r) : narrow ty (.int v) = .int v ∧ v = r := by
  unfold gn at h
  by_cases c : narrow ty (.int v) = .int v
  · rw [if_pos c] at h; exact ⟨c, Option.some.inj h⟩
  · rw [if_neg c] at h; cases h
/-- a town of the history by its number; none: null -/
def q_ref (ta : Nat → Nat) (r : Int32) : Option Nat := if r = 0 then some (ta 0) else if r = 1 then some (ta 1) else if r = 2 then some (ta 2) else if r = 3 then some (ta 3) else if r = 4 then some (ta 4) else if r = 5 then some (ta 5) else if r = 6 then some (ta 6) else none
theorem q_ref_0 {ta : Nat → Nat} : va_rf (q_ref ta 0) = .ref (ta 0) := rfl
theorem q_ref_1 {ta : Nat → Nat} : va_rf (q_ref ta 1) = .ref (ta 1) := rfl
theorem q_ref_2 {ta : Nat → Nat} : va_rf (q_ref ta 2) = .ref (ta 2) := rfl
theorem q_ref_3 {ta : Nat → Nat} : va_rf (q_ref ta 3) = .ref (ta 3) := rfl
theorem q_ref_4 {ta : Nat → Nat} : va_rf (q_ref ta 4) = .ref (ta 4) := rfl
theorem q_ref_5 {ta : Nat → Nat} : va_rf (q_ref ta 5) = .ref (ta 5) := rfl
theorem q_ref_6 {ta : Nat → Nat} : va_rf (q_ref ta 6) = .ref (ta 6) := rfl
theorem q_ref_n {ta : Nat → Nat} : va_rf (q_ref ta (-1)) = .null := rfl
theorem q_ref_in {ta : Nat → Nat} {i : Int32} (h : vp_in i 7) : va_rf (q_ref ta i) = .ref (ta i.toNatClampNeg) := by
  obtain ⟨j, hj, rfl⟩ := vp_in_of h (by decide)
  rcases (show j = 0 ∨ j = 1 ∨ j = 2 ∨ j = 3 ∨ j = 4 ∨ j = 5 ∨ j = 6 by omega) with rfl | rfl | rfl | rfl | rfl | rfl | rfl <;> rfl
abbrev HH : Type := Int32 × Int32 × (Nat → TT)
def H1 (e : HH) (v : Int32) : HH := (v, e.2)
def H2 (e : HH) (v : Int32) : HH := (e.1, v, e.2.2)
def HU (e : HH) (k : Nat) (t : TT) : HH := (e.1, e.2.1, fun j => if j = k then t else e.2.2 j)
abbrev wH (cI cT : ClassId) (h st : Nat) (ta ca : Nat → Nat) (e : HH) : va_W := [(h, .inr (0, [.ref st, .int e.1, .int e.2.1])), (st, .inl (cT, 7, .inr (.inr (.inr (.inr (fun j => some (ta j))))))),
  (ta 0, .inr (2, [.int (e.2.2 0).1, .int (e.2.2 0).2.1, .int (e.2.2 0).2.2.1, .int (e.2.2 0).2.2.2.1, .int (e.2.2 0).2.2.2.2.1, .ref (ca 0)])), (ca 0, .inl (cI, 176, .inl (e.2.2 0).2.2.2.2.2)),
  (ta 1, .inr (2, [.int (e.2.2 1).1, .int (e.2.2 1).2.1, .int (e.2.2 1).2.2.1, .int (e.2.2 1).2.2.2.1, .int (e.2.2 1).2.2.2.2.1, .ref (ca 1)])), (ca 1, .inl (cI, 176, .inl (e.2.2 1).2.2.2.2.2)),
  (ta 2, .inr (2, [.int (e.2.2 2).1, .int (e.2.2 2).2.1, .int (e.2.2 2).2.2.1, .int (e.2.2 2).2.2.2.1, .int (e.2.2 2).2.2.2.2.1, .ref (ca 2)])), (ca 2, .inl (cI, 176, .inl (e.2.2 2).2.2.2.2.2)),
  (ta 3, .inr (2, [.int (e.2.2 3).1, .int (e.2.2 3).2.1, .int (e.2.2 3).2.2.1, .int (e.2.2 3).2.2.2.1, .int (e.2.2 3).2.2.2.2.1, .ref (ca 3)])), (ca 3, .inl (cI, 176, .inl (e.2.2 3).2.2.2.2.2)),
  (ta 4, .inr (2, [.int (e.2.2 4).1, .int (e.2.2 4).2.1, .int (e.2.2 4).2.2.1, .int (e.2.2 4).2.2.2.1, .int (e.2.2 4).2.2.2.2.1, .ref (ca 4)])), (ca 4, .inl (cI, 176, .inl (e.2.2 4).2.2.2.2.2)),
  (ta 5, .inr (2, [.int (e.2.2 5).1, .int (e.2.2 5).2.1, .int (e.2.2 5).2.2.1, .int (e.2.2 5).2.2.2.1, .int (e.2.2 5).2.2.2.2.1, .ref (ca 5)])), (ca 5, .inl (cI, 176, .inl (e.2.2 5).2.2.2.2.2)),
  (ta 6, .inr (2, [.int (e.2.2 6).1, .int (e.2.2 6).2.1, .int (e.2.2 6).2.2.1, .int (e.2.2 6).2.2.2.1, .int (e.2.2 6).2.2.2.2.1, .ref (ca 6)])), (ca 6, .inl (cI, 176, .inl (e.2.2 6).2.2.2.2.2))]
abbrev wX (w o h pd sl : Nat) : va_W := [(w, .inr (3, [.ref o, .ref h, .ref pd, .ref sl]))]
section QD
variable {p : Program} {l : Launch} {e : Env} {R : Room} {s : State} {m : MethodId} {args : Array Value} {below : List Frame} {meth : Method} {c : Code} {H : Heap} {locs : List Loc} {cells slots : Nat} {Q : State → Prop}
variable {cc : ByteArray} {pc : Nat} {ls : Array Slot} {rest st0 As : List Value} {D : va_G} {A : Nat → Prop} {tys : List (ClassId × FieldType)} {W0 W1 wc wr w1 : va_W} {H0 : Heap} {own C : String} {index nL n maxL ci b mc ms : Nat} {y : MethodName} {bytes : ByteArray} {ret : Option FieldType} {w Ts : List Cond} {rm : Room} {v : Int32} {fs : List Value} {T : u_T} {N : Nat} {E : State → Prop} {host : String}
/-- a reading call: virtual -/
theorem x_RVN (S : CallFix p m c cc nL s args Ts own) (hM : Met l y w rm (q_R D tys wc E (.ref b :: As)) (vp_Si (fun r => r = v)) 0 0 (fun _ => False)) (cw : va_CN R s args own index y host bytes maxL ret w rm 0 0 n ∧ (Cond.instanceMethod y).before args s = true ∧ (Cond.selects C y y).before args s = true) (hK : va_K D vwCl tys s) (hP : va_P D vwCl W0 H) (hEb : q_Bl E) (hE : ∀ U : State, U.heap = H → s.WarmedH U.vm → E U) (is : List Nat) (hws : is.filterMap (fun i => W0[i]?) = wc) (h0 : wc[0]? = some (b, .inr (ci, fs))) (hc : vwCl[ci]? = some (C, T, N))
    (hn : As.length = n) (hl : ls.size = nL) (hst : st0 = As.reverse ++ .ref b :: rest) (hW : (rest.map fun v => v.category).sum ≤ 8) (hdg : decode cc pc = .ok (.invokevirtual index, 3)) (hf : cells ≤ R.cells ∧ slots ≤ R.slots)
    (kk : W p l e R s m args below meth c H locs cells slots Q (F0 m (pc + 3) ls (.int v :: rest))) : W p l e R s m args below meth c H locs cells slots Q (F0 m pc ls st0) := by
  have hP' := hP.sub is hws
  refine vp_callSi (va_runVN (g := F0 m pc ls st0) S hM cw ⟨q_R_blind hEb, va_recv hK hP' hc h0, fun U hU hW => ⟨rfl, by rw [hU]; exact hP', va_K.moved hW.alike hK, hE U hU hW⟩⟩ rfl hn hl hst (lv_room hW) hdg hf).run (fun r hr => ?_)
  rw [hr]; exact kk
/-- a reading call: static -/
theorem x_RSN (S : CallFix p m c cc nL s args Ts own) (hM : Met l y w rm (q_R D tys wc E As) (vp_Si (fun r => r = v)) 0 0 (fun _ => False)) (cw : va_CN R s args own index y host bytes maxL ret w rm 0 0 n ∧ (Cond.static y).before args s = true ∧ True) (hK : va_K D vwCl tys s) (hP : va_P D vwCl W0 H) (hEb : q_Bl E) (hE : ∀ U : State, U.heap = H → s.WarmedH U.vm → E U) (is : List Nat) (hws : is.filterMap (fun i => W0[i]?) = wc)
    (hn : As.length = n) (hl : ls.size = nL) (hst : st0 = As.reverse ++ rest) (hW : (rest.map fun v => v.category).sum ≤ 8) (hdg : decode cc pc = .ok (.invokestatic index, 3)) (hf : cells ≤ R.cells ∧ slots ≤ R.slots)
    (kk : W p l e R s m args below meth c H locs cells slots Q (F0 m (pc + 3) ls (.int v :: rest))) : W p l e R s m args below meth c H locs cells slots Q (F0 m pc ls st0) := by
  have hP' := hP.sub is hws
  refine vp_callSi (va_runSN (g := F0 m pc ls st0) S hM cw ⟨q_R_blind hEb, fun U hU hW => ⟨rfl, by rw [hU]; exact hP', va_K.moved hW.alike hK, hE U hU hW⟩⟩ rfl hn hl hst (lv_room hW) hdg hf).run (fun r hr => ?_)
  rw [hr]; exact kk
/-- a writing call with an int answer, that makes nothing -/
theorem x_MVN (S : CallFix p m c cc nL s args Ts own) (hM : Met l y w rm (q_M D tys H.size wc E (.ref b :: As)) (va_Qi (fun r _ => r = v) (q_B D wc H.size w1) (va_A wc H.size)) 0 0 (va_A wc H.size)) (cw : va_CN R s args own index y host bytes maxL ret w rm 0 0 n ∧ (Cond.instanceMethod y).before args s = true ∧ (Cond.selects C y y).before args s = true) (hK : va_K D vwCl tys s) (hP : va_P D vwCl W0 H) (hD : va_D A W0) (hS : va_S A H0 H locs) (hA : ∀ q, H0.size ≤ q → A q) (hEb : q_Bl E) (hE : ∀ U : State, U.heap = H → s.WarmedH U.vm → E U)
    (isC isR perm : List Nat) (hC : isC.map (fun i => W0[i]?) = wc.map some) (hR : isR.map (fun i => W0[i]?) = wr.map some) (hnd : va_nd isC = true ∧ va_nd isR = true ∧ va_nd perm = true ∧ (isR.all (fun i => !isC.contains i)) = true) (hp : perm.map (fun i => (wr ++ w1)[i]?) = W1.map some) (h0 : wc[0]? = some (b, .inr (ci, fs))) (hc : vwCl[ci]? = some (C, T, N))
    (hn : As.length = n) (hl : ls.size = nL) (hst : st0 = As.reverse ++ .ref b :: rest) (hW : (rest.map fun v => v.category).sum ≤ 8) (hdg : decode cc pc = .ok (.invokevirtual index, 3)) (hf : cells ≤ R.cells ∧ slots ≤ R.slots)
    (kk : ∀ (H1 : Heap) (locs1 : List Loc), va_P D vwCl W1 H1 → va_D A W1 → va_S A H0 H1 locs1 → W p l e R s m args below meth c H1 locs1 cells slots Q (F0 m (pc + 3) ls (.int v :: rest))) : W p l e R s m args below meth c H locs cells slots Q (F0 m pc ls st0) := by
  have hPc := hP.sub isC (fm_of_map hC)
  have hDc := hD.sub isC hnd.1 hC
  have hFc := va_free hD hS hA isC hC
  refine va_calli (mc := 0) (ms := 0) (va_runVN (g := F0 m pc ls st0) S hM cw ⟨q_M_blind hEb, va_recv hK hPc hc h0, fun U hU hW => ⟨rfl, by rw [hU], by rw [hU]; exact hPc, va_K.moved hW.alike hK, hDc.weaken (fun _ _ _ _ => trivial), hE U hU hW⟩⟩ rfl hn hl hst (lv_room hW) hdg hf) hS (fun q _ h => hFc q h) hFc (fun r u t H1 locs1 ht hvm hw hB hz1 hk1 hS1 => ?_)
  obtain ⟨hP1, hD1⟩ := hB
  rw [ht] at hP1
  obtain ⟨hP2, hD2⟩ := va_join hP hD isC isR hC hR hnd.2.1 (fun i hi hi2 => by have := List.all_eq_true.mp hnd.2.2.2 i hi; simp [hi2] at this) hk1 hFc hP1 hD1
  rw [hw]
  exact kk H1 locs1 (hP2.sub perm (fm_of_map hp)) (hD2.sub perm hnd.2.2.1 hp) hS1
/-- a writing call without an answer, that makes nothing -/
theorem x_VVN (S : CallFix p m c cc nL s args Ts own) (hM : Met l y w rm (q_M D tys H.size wc E (.ref b :: As)) (va_Qv (fun _ => True) (q_B D wc H.size w1) (va_A wc H.size)) 0 0 (va_A wc H.size)) (cw : va_CN R s args own index y host bytes maxL ret w rm 0 0 n ∧ (Cond.instanceMethod y).before args s = true ∧ (Cond.selects C y y).before args s = true) (hK : va_K D vwCl tys s) (hP : va_P D vwCl W0 H) (hD : va_D A W0) (hS : va_S A H0 H locs) (hA : ∀ q, H0.size ≤ q → A q) (hEb : q_Bl E) (hE : ∀ U : State, U.heap = H → s.WarmedH U.vm → E U)
    (isC isR perm : List Nat) (hC : isC.map (fun i => W0[i]?) = wc.map some) (hR : isR.map (fun i => W0[i]?) = wr.map some) (hnd : va_nd isC = true ∧ va_nd isR = true ∧ va_nd perm = true ∧ (isR.all (fun i => !isC.contains i)) = true) (hp : perm.map (fun i => (wr ++ w1)[i]?) = W1.map some) (h0 : wc[0]? = some (b, .inr (ci, fs))) (hc : vwCl[ci]? = some (C, T, N))
    (hn : As.length = n) (hl : ls.size = nL) (hst : st0 = As.reverse ++ .ref b :: rest) (hW : (rest.map fun v => v.category).sum ≤ 8) (hdg : decode cc pc = .ok (.invokevirtual index, 3)) (hf : cells ≤ R.cells ∧ slots ≤ R.slots)
    (kk : ∀ (H1 : Heap) (locs1 : List Loc), va_P D vwCl W1 H1 → va_D A W1 → va_S A H0 H1 locs1 → W p l e R s m args below meth c H1 locs1 cells slots Q (F0 m (pc + 3) ls rest)) : W p l e R s m args below meth c H locs cells slots Q (F0 m pc ls st0) := by
  have hPc := hP.sub isC (fm_of_map hC)
  have hDc := hD.sub isC hnd.1 hC
  have hFc := va_free hD hS hA isC hC
  refine va_callv (mc := 0) (ms := 0) (va_runVN (g := F0 m pc ls st0) S hM cw ⟨q_M_blind hEb, va_recv hK hPc hc h0, fun U hU hW => ⟨rfl, by rw [hU], by rw [hU]; exact hPc, va_K.moved hW.alike hK, hDc.weaken (fun _ _ _ _ => trivial), hE U hU hW⟩⟩ rfl hn hl hst (lv_room hW) hdg hf) hS (fun q _ h => hFc q h) hFc (fun u t H1 locs1 ht hvm hw hB hz1 hk1 hS1 => ?_)
  obtain ⟨hP1, hD1⟩ := hB
  rw [ht] at hP1
  obtain ⟨hP2, hD2⟩ := va_join hP hD isC isR hC hR hnd.2.1 (fun i hi hi2 => by have := List.all_eq_true.mp hnd.2.2.2 i hi; simp [hi2] at this) hk1 hFc hP1 hD1
  exact kk H1 locs1 (hP2.sub perm (fm_of_map hp)) (hD2.sub perm hnd.2.2.1 hp) hS1
/-- a reading call: virtual -/
theorem x_RVq {ta : Nat → Nat} (S : CallFix p m c cc nL s args Ts own) (hM : Met l y w rm (q_R D tys wc E (.ref b :: As)) (va_Sq (fun r' => r' = q_ref ta v)) 0 0 (fun _ => False)) (cw : CallW R s args own C index y bytes maxL ret w rm 0 0 n) (hK : va_K D vwCl tys s) (hP : va_P D vwCl W0 H) (hEb : q_Bl E) (hE : ∀ U : State, U.heap = H → s.WarmedH U.vm → E U) (is : List Nat) (hws : is.filterMap (fun i => W0[i]?) = wc) (h0 : wc[0]? = some (b, .inr (ci, fs))) (hc : vwCl[ci]? = some (C, T, N))
    (hn : As.length = n) (hl : ls.size = nL) (hst : st0 = As.reverse ++ .ref b :: rest) (hW : (rest.map fun v => v.category).sum ≤ 8) (hdg : decode cc pc = .ok (.invokevirtual index, 3)) (hf : cells ≤ R.cells ∧ slots ≤ R.slots)
    (kk : W p l e R s m args below meth c H locs cells slots Q (F0 m (pc + 3) ls (va_rf (q_ref ta v) :: rest))) : W p l e R s m args below meth c H locs cells slots Q (F0 m pc ls st0) := by
  have hP' := hP.sub is hws
  refine va_csq (va_runV (g := F0 m pc ls st0) S hM cw ⟨q_R_blind hEb, va_recv hK hP' hc h0, fun U hU hW => ⟨rfl, by rw [hU]; exact hP', va_K.moved hW.alike hK, hE U hU hW⟩⟩ rfl hn hl hst (lv_room hW) hdg hf).run (fun r hr => ?_)
  rw [hr]; exact kk
/-- a reading call: static -/
theorem x_RSt {ad : Nat → Value} {kk0 : Nat} (S : CallFix p m c cc nL s args Ts own) (hM : Met l y w rm (q_R D tys wc E As) (va_Sr (fun k => k = kk0) ad) 0 0 (fun _ => False)) (cw : CallB R s args own index y bytes maxL ret w rm 0 0 n ∧ (Cond.static y).before args s = true) (hK : va_K D vwCl tys s) (hP : va_P D vwCl W0 H) (hEb : q_Bl E) (hE : ∀ U : State, U.heap = H → s.WarmedH U.vm → E U) (is : List Nat) (hws : is.filterMap (fun i => W0[i]?) = wc)
    (hn : As.length = n) (hl : ls.size = nL) (hst : st0 = As.reverse ++ rest) (hW : (rest.map fun v => v.category).sum ≤ 8) (hdg : decode cc pc = .ok (.invokestatic index, 3)) (hf : cells ≤ R.cells ∧ slots ≤ R.slots)
    (kk : W p l e R s m args below meth c H locs cells slots Q (F0 m (pc + 3) ls (ad kk0 :: rest))) : W p l e R s m args below meth c H locs cells slots Q (F0 m pc ls st0) := by
  have hP' := hP.sub is hws
  refine va_csr (va_runS (g := F0 m pc ls st0) S hM cw ⟨q_R_blind hEb, fun U hU hW => ⟨rfl, by rw [hU]; exact hP', va_K.moved hW.alike hK, hE U hU hW⟩⟩ rfl hn hl hst (lv_room hW) hdg hf).run (fun r hr => ?_)
  rw [hr]; exact kk
/-- a reading call: static -/
theorem x_RSv (S : CallFix p m c cc nL s args Ts own) (hM : Met l y w rm (q_R D tys wc E As) (va_Sv (fun _ => True)) 0 0 (fun _ => False)) (cw : CallB R s args own index y bytes maxL ret w rm 0 0 n ∧ (Cond.static y).before args s = true) (hK : va_K D vwCl tys s) (hP : va_P D vwCl W0 H) (hEb : q_Bl E) (hE : ∀ U : State, U.heap = H → s.WarmedH U.vm → E U) (is : List Nat) (hws : is.filterMap (fun i => W0[i]?) = wc)
    (hn : As.length = n) (hl : ls.size = nL) (hst : st0 = As.reverse ++ rest) (hW : (rest.map fun v => v.category).sum ≤ 8) (hdg : decode cc pc = .ok (.invokestatic index, 3)) (hf : cells ≤ R.cells ∧ slots ≤ R.slots)
    (kk : W p l e R s m args below meth c H locs cells slots Q (F0 m (pc + 3) ls rest)) : W p l e R s m args below meth c H locs cells slots Q (F0 m pc ls st0) := by
  have hP' := hP.sub is hws
  refine va_csv (va_runS (g := F0 m pc ls st0) S hM cw ⟨q_R_blind hEb, fun U hU hW => ⟨rfl, by rw [hU]; exact hP', va_K.moved hW.alike hK, hE U hU hW⟩⟩ rfl hn hl hst (lv_room hW) hdg hf).run (fun _ => kk)
/-- a reading call: virtual -/
theorem x_RVs (S : CallFix p m c cc nL s args Ts own) (hM : Met l y w rm (q_R D tys wc E (.ref b :: As)) (vp_Si (fun r => r = v)) 0 0 (fun _ => False)) (cw : CallW R s args own C index y bytes maxL ret w rm 0 0 n) (hK : va_K D vwCl tys s) (hP : va_P D vwCl W0 H) (hEb : q_Bl E) (hE : ∀ U : State, U.heap = H → s.WarmedH U.vm → E U) (is : List Nat) (hws : is.filterMap (fun i => W0[i]?) = wc) 
    (hrec : ∃ cell : Cell, H[b]? = some cell ∧ cell.vm.isStatics = false ∧ s.vm.findClass C = some cell.cls) (hn : As.length = n) (hl : ls.size = nL) (hst : st0 = As.reverse ++ .ref b :: rest) (hW : (rest.map fun v => v.category).sum ≤ 8) (hdg : decode cc pc = .ok (.invokevirtual index, 3)) (hf : cells ≤ R.cells ∧ slots ≤ R.slots)
    (kk : W p l e R s m args below meth c H locs cells slots Q (F0 m (pc + 3) ls (.int v :: rest))) : W p l e R s m args below meth c H locs cells slots Q (F0 m pc ls st0) := by
  have hP' := hP.sub is hws
  refine vp_callSi (va_runV (g := F0 m pc ls st0) S hM cw ⟨q_R_blind hEb, hrec, fun U hU hW => ⟨rfl, by rw [hU]; exact hP', va_K.moved hW.alike hK, hE U hU hW⟩⟩ rfl hn hl hst (lv_room hW) hdg hf).run (fun r hr => ?_)
  rw [hr]; exact kk
theorem x_retS {nL k : Nat} {ad : Nat → Value} {nmx : String} {a0 : Nat} (C0 : q_At p s m args meth c cc nL (some (.object nmx)) own) (hdg : decode cc pc = .ok (.areturn, 1)) (hk : ad k = .ref a0 := by rfl) : W p l e R s m args below meth c s.heap [] 0 0 (MQ below (va_Sr (fun k' => k' = k) ad) args s 0 0 (fun _ => False)) (F0 m pc ls [.ref a0]) := by
  obtain ⟨hx, hb, hr, -, -, -, hlocks⟩ := C0
  exact W.aret (v := .ref a0) hx hb hr (Or.inl ⟨_, rfl⟩) (Or.inr ⟨_, rfl⟩) (fun t ht hW => ⟨k, by rw [hk], rfl, ht⟩) (fun q h => by cases h) hdg
theorem x_retQ {nL : Nat} {ta : Nat → Nat} {nmx : String} {u : Value} (C0 : q_At p s m args meth c cc nL (some (.object nmx)) own) (hu : va_rf (q_ref ta v) = u) (hdg : decode cc pc = .ok (.areturn, 1)) : W p l e R s m args below meth c s.heap [] 0 0 (MQ below (va_Sq (fun r' => r' = q_ref ta v)) args s 0 0 (fun _ => False)) (F0 m pc ls [u]) := by
  obtain ⟨hx, hb, hr, -, -, -, hlocks⟩ := C0
  exact W.aret (v := u) hx hb hr (Or.inl ⟨_, rfl⟩) (by rw [← hu]; exact va_rf_or _) (fun t ht hW => ⟨q_ref ta v, by rw [hu], rfl, ht⟩) (fun q h => by cases h) hdg
theorem x_retRv {nL : Nat} (C0 : q_At p s m args meth c cc nL none own) (hdg : decode cc pc = .ok (.return_, 1)) : W p l e R s m args below meth c s.heap [] 0 0 (MQ below (va_Sv (fun _ => True)) args s 0 0 (fun _ => False)) (F0 m pc ls []) := by
  obtain ⟨hx, hb, hr, -, -, -, hlocks⟩ := C0
  exact W.vret hx hb hr (fun t ht hW => ⟨rfl, trivial, ht⟩) (fun q h => by cases h) hdg
end QD

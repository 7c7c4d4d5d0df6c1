/-! own rows: contracts by a pure function (its value is an Option: none = an index outside, or fuel out) -/
theorem bE {α β : Type} {o : Option α} {f : α → Option β} {r : β} (h : o.bind f = some r) : ∃ a, o = some a ∧ f a = some r := by
  cases o with
  | none => cases h
  | some a => exact ⟨a, rfl, h⟩
theorem xt {α : Type} {c : Prop} [Decidable c] {A B : Option α} {r : α} (h : c) (e : (if c then A else B) = some r) : A = some r := by rwa [if_pos h] at e
theorem xf {α : Type} {c : Prop} [Decidable c] {A B : Option α} {r : α} (h : ¬ c) (e : (if c then A else B) = some r) : B = some r := by rwa [if_neg h] at e
/-- reading and writing a row of n places -/
def rd (f : Nat → Int32) (n : Nat) (i : Int32) : Option Int32 := if i < 0 ∨ n ≤ i.toNatClampNeg then none else some (f i.toNatClampNeg)
def wr (f : Nat → Int32) (n : Nat) (i : Int32) (v : Int32) : Option (Nat → Int32) := if i < 0 ∨ n ≤ i.toNatClampNeg then none else some (upd f i.toNatClampNeg v)
/-- an answer of a boolean method that is not written out as 0 or 1 -/
def gb (v : Int32) : Option Int32 := if v &&& 1 = v then some v else none
theorem rd_e {f : Nat → Int32} {n : Nat} {i v : Int32} (h : rd f n i = some v) : vp_in i n ∧ f i.toNatClampNeg = v := by
  unfold rd at h
  by_cases c : i < 0 ∨ n ≤ i.toNatClampNeg
  · rw [if_pos c] at h; cases h
  · rw [if_neg c] at h; exact ⟨c, Option.some.inj h⟩
theorem wr_e {f : Nat → Int32} {n : Nat} {i x : Int32} {g : Nat → Int32} (h : wr f n i x = some g) : vp_in i n ∧ upd f i.toNatClampNeg x = g := by
  unfold wr at h
  by_cases c : i < 0 ∨ n ≤ i.toNatClampNeg
  · rw [if_pos c] at h; cases h
  · rw [if_neg c] at h; exact ⟨c, Option.some.inj h⟩
theorem gb_e {v r : Int32} (h : gb v = some r) : v &&& 1 = v ∧ v = r := by
  unfold gb at h
  by_cases c : v &&& 1 = v
  · rw [if_pos c] at h; exact ⟨c, Option.some.inj h⟩
  · rw [if_neg c] at h; cases h
abbrev q_tys (cI cZ cT : ClassId) : List (ClassId × FieldType) := [(cI, .int), (cZ, .int), (cT, .object "QuarrelWays$Town")]
def q_R (D : va_G) (tys : List (ClassId × FieldType)) (ws : va_W) (E : State → Prop) (av : List Value) : Array Value → State → Prop := va_Pc av (fun U => va_P D vwCl ws U.heap ∧ va_K D vwCl tys U ∧ E U)
def q_M (D : va_G) (tys : List (ClassId × FieldType)) (sz : Nat) (ws : va_W) (E : State → Prop) (av : List Value) : Array Value → State → Prop := va_Pc av (fun U => U.heap.size = sz ∧ va_P D vwCl ws U.heap ∧ va_K D vwCl tys U ∧ va_D (fun _ => True) ws ∧ E U)
def q_Bl (E : State → Prop) : Prop := ∀ (a : Array Value) (U : State) (g : JFrame) (mk : MethodId), E U → E (U.calling g mk a)
def q_T : State → Prop := fun _ => True
theorem q_T_bl : q_Bl q_T := fun _ _ _ _ _ => trivial
theorem q_R_blind {D : va_G} {tys : List (ClassId × FieldType)} {ws : va_W} {E : State → Prop} {av : List Value} (hE : q_Bl E) : FrameBlind (q_R D tys ws E av) :=
  fun a U g mk h => ⟨h.1, h.2.1, va_K.moved (u := U) (U := U.calling g mk a) (Vm.Alike.refl U.vm) h.2.2.1, hE a U g mk h.2.2.2⟩
theorem q_M_blind {D : va_G} {tys : List (ClassId × FieldType)} {sz : Nat} {ws : va_W} {E : State → Prop} {av : List Value} (hE : q_Bl E) : FrameBlind (q_M D tys sz ws E av) :=
  fun a U g mk h => ⟨h.1, h.2.1, h.2.2.1, va_K.moved (u := U) (U := U.calling g mk a) (Vm.Alike.refl U.vm) h.2.2.2.1, h.2.2.2.2.1, hE a U g mk h.2.2.2.2.2⟩
def q_B (D : va_G) (ws : va_W) (sz : Nat) (w1 : va_W) : Unit → State → Prop := fun _ t => va_P D vwCl w1 t.heap ∧ va_D (va_A ws sz) w1
/-- what a walk stands on -/
def q_At (p : Program) (s : State) (m : MethodId) (args : Array Value) (meth : Method) (c : Code) (cc : ByteArray) (nL : Nat) (ret : Option FieldType) (own : String) : Prop :=
  p.tables.exec = Jvm.exec ∧ c.code = cc ∧ meth.sig.returnType = ret ∧ c.maxLocals = nL ∧ s.vm.findClass own = some m.cls ∧ (∀ w ∈ BW, w.before args s = true) ∧ meth.locks = false
abbrev q_QR (below : List Frame) (args : Array Value) (s : State) (v : Int32) : State → Prop := MQ below (vp_Si (fun r' => r' = v)) args s 0 0 (fun _ => False)
abbrev q_QM (D : va_G) (below : List Frame) (args : Array Value) (s : State) (ws w1 : va_W) (v : Int32) : State → Prop := MQ below (va_Qi (fun r' _ => r' = v) (q_B D ws s.heap.size w1) (va_A ws s.heap.size)) args s 0 0 (va_A ws s.heap.size)
abbrev q_QV (D : va_G) (below : List Frame) (args : Array Value) (s : State) (ws w1 : va_W) (mc ms : Nat) : State → Prop := MQ below (va_Qv (fun _ => True) (q_B D ws s.heap.size w1) (va_A ws s.heap.size)) args s mc ms (va_A ws s.heap.size)
section QK
variable {p : Program} {l : Launch} {e : Env} {R : Room} {s : State} {m : MethodId} {args : Array Value} {below : List Frame} {meth : Method} {c : Code} {H : Heap} {locs : List Loc} {cells slots : Nat} {Q : State → Prop}
variable {cc : ByteArray} {pc : Nat} {ls : Array Slot} {rest st0 : List Value} {D : va_G} {A : Nat → Prop} {tys : List (ClassId × FieldType)} {W0 : va_W} {H0 : Heap}
theorem q_entry {av : List Value} {n : Nat} (hn : (lg_sl av).length ≤ n) (k : ∀ ls, lv_has ls n (lv_args 0 av) → W p l e R s m args below meth c H locs cells slots Q (F0 m 0 ls [])) : W p l e R s m args below meth c H locs cells slots Q (entryFrame m av.toArray n) := by
  rw [lg_entry_eq]
  exact k _ (lv_entry av hn)
theorem fm_of_map {α β : Type} {is : List α} {f : α → Option β} {ws : List β} (h : is.map f = ws.map some) : is.filterMap f = ws := by
  induction is generalizing ws with
  | nil => cases ws with
    | nil => rfl
    | cons a w => cases h
  | cons i is ih => cases ws with
    | nil => cases h
    | cons a w =>
      simp only [List.map_cons, List.cons.injEq] at h
      rw [List.filterMap_cons, h.1]
      simp only [ih h.2]
end QK
/-- a reading method's contract -/
theorem q_RI {l : Launch} {y : MethodName} {rm : Room} {cc : ByteArray} {maxL : Nat} {ret : Option FieldType} {D : va_G} {tys : List (ClassId × FieldType)} {ws : va_W} {E : State → Prop} {av : List Value} {Qc : Array Value → State → Outcome → State → Prop} {mc ms : Nat} {free : Addr → Prop} (hy : plainFor y = true) (hn : (lg_sl av).length ≤ maxL)
    (body : ∀ p e s m below meth c, q_At p s m av.toArray meth c cc maxL ret y.cls → va_P D vwCl ws s.heap → va_K D vwCl tys s → E s → ∀ ls, lv_has ls maxL (lv_args 0 av) → W p l e rm s m av.toArray below meth c s.heap [] 0 0 (MQ below Qc av.toArray s mc ms free) (F0 m 0 ls [])) : Met l y (wq y cc maxL ret) rm (q_R D tys ws E av) Qc mc ms free := by
  refine va_MetF (cc := cc) (maxL := maxL) (ret := ret) hy rfl ?_
  intro p e s m args below meth c s₁ B hml hv
  obtain ⟨rfl, hP, hK, hE⟩ := hv
  refine q_entry hn (fun ls hl => ?_)
  exact body p e s m below meth c ⟨B.exec, B.bytes, B.returns, hml, findClass_of_methodNamed B.named, fun w hw => atoms_spec (ws := wq y cc maxL ret) B.pre w (List.mem_cons_of_mem _ hw), B.notSynchronized⟩ hP hK hE ls hl
/-- a writing method's contract -/
theorem q_MI {l : Launch} {y : MethodName} {rm : Room} {cc : ByteArray} {maxL : Nat} {ret : Option FieldType} {D : va_G} {tys : List (ClassId × FieldType)} {sz : Nat} {ws : va_W} {E : Nat → State → Prop} {av : List Value} {Qc : Nat → Array Value → State → Outcome → State → Prop} {mc ms : Nat} {free : Nat → Addr → Prop} (hy : plainFor y = true) (hn : (lg_sl av).length ≤ maxL)
    (body : ∀ p e s m below meth c, q_At p s m av.toArray meth c cc maxL ret y.cls → (meth.name = y.name) → va_P D vwCl ws s.heap → va_K D vwCl tys s → va_D (va_A ws s.heap.size) ws → E s.heap.size s → ∀ ls, lv_has ls maxL (lv_args 0 av) → W p l e rm s m av.toArray below meth c s.heap [] 0 0 (MQ below (Qc s.heap.size) av.toArray s mc ms (free s.heap.size)) (F0 m 0 ls [])) : Met l y (wq y cc maxL ret) rm (q_M D tys sz ws (E sz) av) (Qc sz) mc ms (free sz) := by
  refine va_MetF (cc := cc) (maxL := maxL) (ret := ret) hy rfl ?_
  intro p e s m args below meth c s₁ B hml hv
  obtain ⟨rfl, hsz, hP, hK, hD, hE⟩ := hv
  subst hsz
  refine q_entry hn (fun ls hl => ?_)
  exact body p e s m below meth c ⟨B.exec, B.bytes, B.returns, hml, findClass_of_methodNamed B.named, fun w hw => atoms_spec (ws := wq y cc maxL ret) B.pre w (List.mem_cons_of_mem _ hw), B.notSynchronized⟩ (name_of_methodNamed B.named B.method).1 hP hK hD.self hE ls hl
section QC
variable {p : Program} {l : Launch} {e : Env} {R : Room} {s : State} {m : MethodId} {args : Array Value} {below : List Frame} {meth : Method} {c : Code} {H : Heap} {locs : List Loc} {cells slots : Nat} {Q : State → Prop}
variable {cc : ByteArray} {pc : Nat} {ls : Array Slot} {rest st0 As : List Value} {D : va_G} {A : Nat → Prop} {tys : List (ClassId × FieldType)} {W0 W1 wc wr w1 : va_W} {H0 : Heap} {own C : String} {index nL n maxL ci b mc ms : Nat} {y : MethodName} {bytes : ByteArray} {ret : Option FieldType} {w Ts : List Cond} {rm : Room} {v : Int32} {fs : List Value} {T : u_T} {N : Nat} {E : State → Prop}
/-- a reading call: virtual -/
theorem x_RV (S : CallFix p m c cc nL s args Ts own) (hM : Met l y w rm (q_R D tys wc E (.ref b :: As)) (vp_Si (fun r => r = v)) 0 0 (fun _ => False)) (cw : CallW R s args own C index y bytes maxL ret w rm 0 0 n) (hK : va_K D vwCl tys s) (hP : va_P D vwCl W0 H) (hEb : q_Bl E) (hE : ∀ U : State, U.heap = H → s.WarmedH U.vm → E U) (is : List Nat) (hws : is.filterMap (fun i => W0[i]?) = wc) (h0 : wc[0]? = some (b, .inr (ci, fs))) (hc : vwCl[ci]? = some (C, T, N))
    (hn : As.length = n) (hl : ls.size = nL) (hst : st0 = As.reverse ++ .ref b :: rest) (hW : (rest.map fun v => v.category).sum ≤ 8) (hdg : decode cc pc = .ok (.invokevirtual index, 3)) (hf : cells ≤ R.cells ∧ slots ≤ R.slots)
    (kk : W p l e R s m args below meth c H locs cells slots Q (F0 m (pc + 3) ls (.int v :: rest))) : W p l e R s m args below meth c H locs cells slots Q (F0 m pc ls st0) := by
  have hP' := hP.sub is hws
  refine vp_callSi (va_runV (g := F0 m pc ls st0) S hM cw ⟨q_R_blind hEb, va_recv hK hP' hc h0, fun U hU hW => ⟨rfl, by rw [hU]; exact hP', va_K.moved hW.alike hK, hE U hU hW⟩⟩ rfl hn hl hst (lv_room hW) hdg hf).run (fun r hr => ?_)
  rw [hr]; exact kk
/-- a reading call: static -/
theorem x_RS (S : CallFix p m c cc nL s args Ts own) (hM : Met l y w rm (q_R D tys wc E As) (vp_Si (fun r => r = v)) 0 0 (fun _ => False)) (cw : CallB R s args own index y bytes maxL ret w rm 0 0 n ∧ (Cond.static y).before args s = true) (hK : va_K D vwCl tys s) (hP : va_P D vwCl W0 H) (hEb : q_Bl E) (hE : ∀ U : State, U.heap = H → s.WarmedH U.vm → E U) (is : List Nat) (hws : is.filterMap (fun i => W0[i]?) = wc)
    (hn : As.length = n) (hl : ls.size = nL) (hst : st0 = As.reverse ++ rest) (hW : (rest.map fun v => v.category).sum ≤ 8) (hdg : decode cc pc = .ok (.invokestatic index, 3)) (hf : cells ≤ R.cells ∧ slots ≤ R.slots)
    (kk : W p l e R s m args below meth c H locs cells slots Q (F0 m (pc + 3) ls (.int v :: rest))) : W p l e R s m args below meth c H locs cells slots Q (F0 m pc ls st0) := by
  have hP' := hP.sub is hws
  refine vp_callSi (va_runS (g := F0 m pc ls st0) S hM cw ⟨q_R_blind hEb, fun U hU hW => ⟨rfl, by rw [hU]; exact hP', va_K.moved hW.alike hK, hE U hU hW⟩⟩ rfl hn hl hst (lv_room hW) hdg hf).run (fun r hr => ?_)
  rw [hr]; exact kk
/-- a writing call with an int answer, that makes nothing -/
theorem x_MV (S : CallFix p m c cc nL s args Ts own) (hM : Met l y w rm (q_M D tys H.size wc E (.ref b :: As)) (va_Qi (fun r _ => r = v) (q_B D wc H.size w1) (va_A wc H.size)) 0 0 (va_A wc H.size)) (cw : CallW R s args own C index y bytes maxL ret w rm 0 0 n) (hK : va_K D vwCl tys s) (hP : va_P D vwCl W0 H) (hD : va_D A W0) (hS : va_S A H0 H locs) (hA : ∀ q, H0.size ≤ q → A q) (hEb : q_Bl E) (hE : ∀ U : State, U.heap = H → s.WarmedH U.vm → E U)
    (isC isR perm : List Nat) (hC : isC.map (fun i => W0[i]?) = wc.map some) (hR : isR.map (fun i => W0[i]?) = wr.map some) (hnd : va_nd isC = true ∧ va_nd isR = true ∧ va_nd perm = true ∧ (isR.all (fun i => !isC.contains i)) = true) (hp : perm.map (fun i => (wr ++ w1)[i]?) = W1.map some) (h0 : wc[0]? = some (b, .inr (ci, fs))) (hc : vwCl[ci]? = some (C, T, N))
    (hn : As.length = n) (hl : ls.size = nL) (hst : st0 = As.reverse ++ .ref b :: rest) (hW : (rest.map fun v => v.category).sum ≤ 8) (hdg : decode cc pc = .ok (.invokevirtual index, 3)) (hf : cells ≤ R.cells ∧ slots ≤ R.slots)
    (kk : ∀ (H1 : Heap) (locs1 : List Loc), va_P D vwCl W1 H1 → va_D A W1 → va_S A H0 H1 locs1 → W p l e R s m args below meth c H1 locs1 cells slots Q (F0 m (pc + 3) ls (.int v :: rest))) : W p l e R s m args below meth c H locs cells slots Q (F0 m pc ls st0) := by
  have hPc := hP.sub isC (fm_of_map hC)
  have hDc := hD.sub isC hnd.1 hC
  have hFc := va_free hD hS hA isC hC
  refine va_calli (mc := 0) (ms := 0) (va_runV (g := F0 m pc ls st0) S hM cw ⟨q_M_blind hEb, va_recv hK hPc hc h0, fun U hU hW => ⟨rfl, by rw [hU], by rw [hU]; exact hPc, va_K.moved hW.alike hK, hDc.weaken (fun _ _ _ _ => trivial), hE U hU hW⟩⟩ rfl hn hl hst (lv_room hW) hdg hf) hS (fun q _ h => hFc q h) hFc (fun r u t H1 locs1 ht hvm hw hB hz1 hk1 hS1 => ?_)
  obtain ⟨hP1, hD1⟩ := hB
  rw [ht] at hP1
  obtain ⟨hP2, hD2⟩ := va_join hP hD isC isR hC hR hnd.2.1 (fun i hi hi2 => by have := List.all_eq_true.mp hnd.2.2.2 i hi; simp [hi2] at this) hk1 hFc hP1 hD1
  rw [hw]
  exact kk H1 locs1 (hP2.sub perm (fm_of_map hp)) (hD2.sub perm hnd.2.2.1 hp) hS1
/-- a writing call without an answer, that makes nothing -/
theorem x_VV (S : CallFix p m c cc nL s args Ts own) (hM : Met l y w rm (q_M D tys H.size wc E (.ref b :: As)) (va_Qv (fun _ => True) (q_B D wc H.size w1) (va_A wc H.size)) 0 0 (va_A wc H.size)) (cw : CallW R s args own C index y bytes maxL ret w rm 0 0 n) (hK : va_K D vwCl tys s) (hP : va_P D vwCl W0 H) (hD : va_D A W0) (hS : va_S A H0 H locs) (hA : ∀ q, H0.size ≤ q → A q) (hEb : q_Bl E) (hE : ∀ U : State, U.heap = H → s.WarmedH U.vm → E U)
    (isC isR perm : List Nat) (hC : isC.map (fun i => W0[i]?) = wc.map some) (hR : isR.map (fun i => W0[i]?) = wr.map some) (hnd : va_nd isC = true ∧ va_nd isR = true ∧ va_nd perm = true ∧ (isR.all (fun i => !isC.contains i)) = true) (hp : perm.map (fun i => (wr ++ w1)[i]?) = W1.map some) (h0 : wc[0]? = some (b, .inr (ci, fs))) (hc : vwCl[ci]? = some (C, T, N))
    (hn : As.length = n) (hl : ls.size = nL) (hst : st0 = As.reverse ++ .ref b :: rest) (hW : (rest.map fun v => v.category).sum ≤ 8) (hdg : decode cc pc = .ok (.invokevirtual index, 3)) (hf : cells ≤ R.cells ∧ slots ≤ R.slots)
    (kk : ∀ (H1 : Heap) (locs1 : List Loc), va_P D vwCl W1 H1 → va_D A W1 → va_S A H0 H1 locs1 → W p l e R s m args below meth c H1 locs1 cells slots Q (F0 m (pc + 3) ls rest)) : W p l e R s m args below meth c H locs cells slots Q (F0 m pc ls st0) := by
  have hPc := hP.sub isC (fm_of_map hC)
  have hDc := hD.sub isC hnd.1 hC
  have hFc := va_free hD hS hA isC hC
  refine va_callv (mc := 0) (ms := 0) (va_runV (g := F0 m pc ls st0) S hM cw ⟨q_M_blind hEb, va_recv hK hPc hc h0, fun U hU hW => ⟨rfl, by rw [hU], by rw [hU]; exact hPc, va_K.moved hW.alike hK, hDc.weaken (fun _ _ _ _ => trivial), hE U hU hW⟩⟩ rfl hn hl hst (lv_room hW) hdg hf) hS (fun q _ h => hFc q h) hFc (fun u t H1 locs1 ht hvm hw hB hz1 hk1 hS1 => ?_)
  obtain ⟨hP1, hD1⟩ := hB
  rw [ht] at hP1
  obtain ⟨hP2, hD2⟩ := va_join hP hD isC isR hC hR hnd.2.1 (fun i hi hi2 => by have := List.all_eq_true.mp hnd.2.2.2 i hi; simp [hi2] at this) hk1 hFc hP1 hD1
  exact kk H1 locs1 (hP2.sub perm (fm_of_map hp)) (hD2.sub perm hnd.2.2.1 hp) hS1
/-- ends -/
theorem x_retR {nL : Nat} {ty : FieldType} (C0 : q_At p s m args meth c cc nL (some ty) own) (hv : narrow ty (.int v) = .int v) (hdg : decode cc pc = .ok (.ireturn, 1)) : W p l e R s m args below meth c s.heap [] 0 0 (q_QR below args s v) (F0 m pc ls [.int v]) := by
  obtain ⟨hx, hb, hr, -, -, -, hlocks⟩ := C0
  exact W.zret (v := v) hx hb hr hv (fun t ht hW => ⟨v, rfl, rfl, ht⟩) (fun q h => by cases h) hdg
theorem x_retM {ws : va_W} {nL : Nat} {ty : FieldType} (C0 : q_At p s m args meth c cc nL (some ty) own) (hv : narrow ty (.int v) = .int v) (hP : va_P D vwCl w1 H) (hD : va_D (va_A ws s.heap.size) w1) (hS : va_S (va_A ws s.heap.size) s.heap H locs) (hdg : decode cc pc = .ok (.ireturn, 1)) : W p l e R s m args below meth c H locs 0 0 (q_QM D below args s ws w1 v) (F0 m pc ls [.int v]) := by
  obtain ⟨hx, hb, hr, -, -, -, hlocks⟩ := C0
  exact W.zret (v := v) hx hb hr hv (fun t ht hW => ⟨⟨v, (), rfl, rfl, by rw [ht]; exact hP, hD⟩, hS.F ht⟩) hS.2.2 hdg
theorem x_retV {ws : va_W} {nL : Nat} (C0 : q_At p s m args meth c cc nL none own) (hP : va_P D vwCl w1 H) (hD : va_D (va_A ws s.heap.size) w1) (hS : va_S (va_A ws s.heap.size) s.heap H locs) (hdg : decode cc pc = .ok (.return_, 1)) : W p l e R s m args below meth c H locs cells slots (q_QV D below args s ws w1 cells slots) (F0 m pc ls []) := by
  obtain ⟨hx, hb, hr, -, -, -, hlocks⟩ := C0
  exact W.vret hx hb hr (fun t ht hW => ⟨⟨(), rfl, trivial, by rw [ht]; exact hP, hD⟩, hS.F ht⟩) hS.2.2 hdg
theorem x_nz {v : Int32} (h : v &&& 1 = v) : narrow .boolean (.int v) = .int v := by show Value.int (v &&& 1) = .int v; rw [h]
/-- a value that two or more ways bring together -/
theorem x_j {V α : Type} {nL : Nat} (lvf : V → List (Nat × Value)) (J : Nat) (st : V → List Value) {o : Option V} {f : V → Option α} {r : α} {g : JFrame} (h : o.bind f = some r)
    (rest : ∀ v, f v = some r → ∀ ls, lv_has ls nL (lvf v) → W p l e R s m args below meth c H locs cells slots Q (F0 m J ls (st v)))
    (region : ∀ v, o = some v → (∀ ls, lv_has ls nL (lvf v) → W p l e R s m args below meth c H locs cells slots Q (F0 m J ls (st v))) → W p l e R s m args below meth c H locs cells slots Q g) : W p l e R s m args below meth c H locs cells slots Q g := by
  obtain ⟨v, hv, h⟩ := bE h
  exact region v hv (rest v h)
theorem x_jM {V α : Type} {nL : Nat} (lvf : V → List (Nat × Value)) (J : Nat) (st : V → List Value) (wf : V → va_W) {o : Option V} {f : V → Option α} {r : α} {g : JFrame} (h : o.bind f = some r)
    (rest : ∀ v, f v = some r → ∀ (H : Heap) (locs : List Loc) ls, va_P D vwCl (wf v) H → va_D A (wf v) → va_S A H0 H locs → lv_has ls nL (lvf v) → W p l e R s m args below meth c H locs cells slots Q (F0 m J ls (st v)))
    (region : ∀ v, o = some v → (∀ (H : Heap) (locs : List Loc) ls, va_P D vwCl (wf v) H → va_D A (wf v) → va_S A H0 H locs → lv_has ls nL (lvf v) → W p l e R s m args below meth c H locs cells slots Q (F0 m J ls (st v))) → W p l e R s m args below meth c H locs cells slots Q g) : W p l e R s m args below meth c H locs cells slots Q g := by
  obtain ⟨v, hv, h⟩ := bE h
  exact region v hv (rest v h)
end QC
/-- what a row of booleans keeps -/
def wrz (f : Nat → Int32) (n : Nat) (i : Int32) (v : Int32) : Option (Nat → Int32) := if i < 0 ∨ n ≤ i.toNatClampNeg then none else some (upd f i.toNatClampNeg (vp_nar .boolean v))
theorem wrz_e {f : Nat → Int32} {n : Nat} {i x : Int32} {g : Nat → Int32} (h : wrz f n i x = some g) : vp_in i n ∧ upd f i.toNatClampNeg (vp_nar .boolean x) = g := by
  unfold wrz at h
  by_cases c : i < 0 ∨ n ≤ i.toNatClampNeg
  · rw [if_pos c] at h; cases h
  · rw [if_neg c] at h; exact ⟨c, Option.some.inj h⟩
section QA
variable {p : Program} {l : Launch} {e : Env} {R : Room} {s : State} {m : MethodId} {args : Array Value} {below : List Frame} {meth : Method} {c : Code} {H : Heap} {locs : List Loc} {cells slots : Nat} {Q : State → Prop}
variable {cc : ByteArray} {pc : Nat} {ls : Array Slot} {rest : List Value} {D : va_G} {A : Nat → Prop} {tys : List (ClassId × FieldType)} {W0 : va_W} {H0 : Heap} {a n : Nat} {f g : Nat → Int32} {i v : Int32} {cA : ClassId}
theorem x_iald (hexec : p.tables.exec = Jvm.exec) (hb : c.code = cc) (hK : va_K D vwCl tys s) (hP : va_P D vwCl W0 H) (q0 t0 : Nat) (ha : W0[q0]? = some (a, .inl (cA, n, .inl f))) (ht : tys[t0]? = some (cA, .int)) (h : rd f n i = some v) (hdg : decode cc pc = .ok (.iaload, 1))
    (kk : W p l e R s m args below meth c H locs cells slots Q (F0 m (pc + 1) ls (.int v :: rest))) : W p l e R s m args below meth c H locs cells slots Q (F0 m pc ls (.int i :: .ref a :: rest)) := by
  obtain ⟨hi, rfl⟩ := rd_e h
  exact va_iald hexec hb hK hP q0 t0 ha ht hi hdg kk
theorem x_zald (hexec : p.tables.exec = Jvm.exec) (hb : c.code = cc) (hK : va_K D vwCl tys s) (hP : va_P D vwCl W0 H) (q0 t0 : Nat) (ha : W0[q0]? = some (a, .inl (cA, n, .inl f))) (ht : tys[t0]? = some (cA, .boolean)) (h : rd f n i = some v) (hdg : decode cc pc = .ok (.baload, 1))
    (kk : W p l e R s m args below meth c H locs cells slots Q (F0 m (pc + 1) ls (.int v :: rest))) : W p l e R s m args below meth c H locs cells slots Q (F0 m pc ls (.int i :: .ref a :: rest)) := by
  obtain ⟨hi, rfl⟩ := rd_e h
  exact va_zald hexec hb hK hP q0 t0 ha ht hi hdg kk
theorem x_iast (hexec : p.tables.exec = Jvm.exec) (hb : c.code = cc) (hK : va_K D vwCl tys s) (hP : va_P D vwCl W0 H) (hD : va_D A W0) (hS : va_S A H0 H locs) (q0 t0 : Nat) (ha : W0[q0]? = some (a, .inl (cA, n, .inl f))) (ht : tys[t0]? = some (cA, .int)) (h : wr f n i v = some g) (hdg : decode cc pc = .ok (.iastore, 1))
    (kk : ∀ (H1 : Heap) (locs1 : List Loc), va_P D vwCl (W0.set q0 (a, .inl (cA, n, .inl g))) H1 → va_D A (W0.set q0 (a, .inl (cA, n, .inl g))) → va_S A H0 H1 locs1 → W p l e R s m args below meth c H1 locs1 cells slots Q (F0 m (pc + 1) ls rest)) : W p l e R s m args below meth c H locs cells slots Q (F0 m pc ls (.int v :: .int i :: .ref a :: rest)) := by
  obtain ⟨hi, rfl⟩ := wr_e h
  exact va_iast hexec hb hK hP hD hS q0 t0 ha ht hi hdg kk
theorem x_zast (hexec : p.tables.exec = Jvm.exec) (hb : c.code = cc) (hK : va_K D vwCl tys s) (hP : va_P D vwCl W0 H) (hD : va_D A W0) (hS : va_S A H0 H locs) (q0 t0 : Nat) (ha : W0[q0]? = some (a, .inl (cA, n, .inl f))) (ht : tys[t0]? = some (cA, .boolean)) (h : wrz f n i v = some g) (hdg : decode cc pc = .ok (.bastore, 1))
    (kk : ∀ (H1 : Heap) (locs1 : List Loc), va_P D vwCl (W0.set q0 (a, .inl (cA, n, .inl g))) H1 → va_D A (W0.set q0 (a, .inl (cA, n, .inl g))) → va_S A H0 H1 locs1 → W p l e R s m args below meth c H1 locs1 cells slots Q (F0 m (pc + 1) ls rest)) : W p l e R s m args below meth c H locs cells slots Q (F0 m pc ls (.int v :: .int i :: .ref a :: rest)) := by
  obtain ⟨hi, rfl⟩ := wrz_e h
  exact va_zast hexec hb hK hP hD hS q0 t0 ha ht hi hdg kk
end QA
theorem x_fz {v : Int32} (h : v &&& 1 = v) : fits .boolean (.int v) = true := by
  have e := pk_and v (m := 1) 1 (by decide)
  rw [← h]
  rcases Nat.mod_two_eq_zero_or_one v.toBitVec.toNat with q | q
  · rw [show (2 : Nat) ^ 1 = 2 from rfl, q] at e; rw [e]; rfl
  · rw [show (2 : Nat) ^ 1 = 2 from rfl, q] at e; rw [e]; rfl
/-! the states: a town, a pad, the model -/
abbrev TT : Type := Int32 × Int32 × Int32 × Int32 × Int32 × (Nat → Int32)
def T0 (t : TT) (v : Int32) : TT := (v, t.2)
def T1 (t : TT) (v : Int32) : TT := (t.1, v, t.2.2)
def T2 (t : TT) (v : Int32) : TT := (t.1, t.2.1, v, t.2.2.2)
def T3 (t : TT) (v : Int32) : TT := (t.1, t.2.1, t.2.2.1, v, t.2.2.2.2)
def T4 (t : TT) (v : Int32) : TT := (t.1, t.2.1, t.2.2.1, t.2.2.2.1, v, t.2.2.2.2.2)
def T5 (t : TT) (g : Nat → Int32) : TT := (t.1, t.2.1, t.2.2.1, t.2.2.2.1, t.2.2.2.2.1, g)
abbrev wT (cI : ClassId) (o a : Nat) (t : TT) : va_W := [(o, .inr (2, [.int t.1, .int t.2.1, .int t.2.2.1, .int t.2.2.2.1, .int t.2.2.2.2.1, .ref a])), (a, .inl (cI, 176, .inl t.2.2.2.2.2))]
abbrev PP : Type := (Nat → Int32) × Int32 × Int32 × Int32 × (Nat → Int32) × Int32
def P0 (t : PP) (g : Nat → Int32) : PP := (g, t.2)
def P1 (t : PP) (v : Int32) : PP := (t.1, v, t.2.2)
def P2 (t : PP) (v : Int32) : PP := (t.1, t.2.1, v, t.2.2.2)
def P3 (t : PP) (v : Int32) : PP := (t.1, t.2.1, t.2.2.1, v, t.2.2.2.2)
def P4 (t : PP) (g : Nat → Int32) : PP := (t.1, t.2.1, t.2.2.1, t.2.2.2.1, g, t.2.2.2.2.2)
def P5 (t : PP) (v : Int32) : PP := (t.1, t.2.1, t.2.2.1, t.2.2.2.1, t.2.2.2.2.1, v)
abbrev wPd (cI : ClassId) (o sg nm : Nat) (t : PP) : va_W := [(o, .inr (1, [.ref sg, .int t.2.1, .int t.2.2.1, .int t.2.2.2.1, .ref nm, .int t.2.2.2.2.2])), (sg, .inl (cI, 80, .inl t.1)), (nm, .inl (cI, 3, .inl t.2.2.2.2.1))]
abbrev wS (cI : ClassId) (o : Nat) (fs : List Value) (a : Nat) (s : Nat → Int32) : va_W := [(o, .inr (4, fs)), (a, .inl (cI, 181, .inl s))]
abbrev MM : Type := (Nat → Int32) × (Nat → Int32) × (Nat → Int32) × Int32 × (Nat → Int32) × (Nat → Int32) × (Nat → Int32) × Int32 × Int32 × Int32
def M0 (t : MM) (g : Nat → Int32) : MM := (g, t.2)
def M1 (t : MM) (g : Nat → Int32) : MM := (t.1, g, t.2.2)
def M2 (t : MM) (g : Nat → Int32) : MM := (t.1, t.2.1, g, t.2.2.2)
def M3 (t : MM) (v : Int32) : MM := (t.1, t.2.1, t.2.2.1, v, t.2.2.2.2)
def M4 (t : MM) (g : Nat → Int32) : MM := (t.1, t.2.1, t.2.2.1, t.2.2.2.1, g, t.2.2.2.2.2)
def M5 (t : MM) (g : Nat → Int32) : MM := (t.1, t.2.1, t.2.2.1, t.2.2.2.1, t.2.2.2.2.1, g, t.2.2.2.2.2.2)
def M6 (t : MM) (g : Nat → Int32) : MM := (t.1, t.2.1, t.2.2.1, t.2.2.2.1, t.2.2.2.2.1, t.2.2.2.2.2.1, g, t.2.2.2.2.2.2.2)
def M7 (t : MM) (v : Int32) : MM := (t.1, t.2.1, t.2.2.1, t.2.2.2.1, t.2.2.2.2.1, t.2.2.2.2.2.1, t.2.2.2.2.2.2.1, v, t.2.2.2.2.2.2.2.2)
def M8 (t : MM) (v : Int32) : MM := (t.1, t.2.1, t.2.2.1, t.2.2.2.1, t.2.2.2.2.1, t.2.2.2.2.2.1, t.2.2.2.2.2.2.1, t.2.2.2.2.2.2.2.1, v, t.2.2.2.2.2.2.2.2.2)
def M9 (t : MM) (v : Int32) : MM := (t.1, t.2.1, t.2.2.1, t.2.2.2.1, t.2.2.2.2.1, t.2.2.2.2.2.1, t.2.2.2.2.2.2.1, t.2.2.2.2.2.2.2.1, t.2.2.2.2.2.2.2.2.1, v)
abbrev wMf (b : Nat → Nat) (t : MM) : List Value := [.ref (b 0), .ref (b 1), .ref (b 2), .int t.2.2.2.1, .ref (b 4), .ref (b 5), .ref (b 6), .int t.2.2.2.2.2.2.2.1, .int t.2.2.2.2.2.2.2.2.1, .int t.2.2.2.2.2.2.2.2.2]
abbrev wM (cI cZ : ClassId) (o : Nat) (b : Nat → Nat) (t : MM) : va_W := [(o, .inr (4, wMf b t)), (b 0, .inl (cI, 181, .inl t.1)), (b 1, .inl (cI, 181, .inl t.2.1)), (b 2, .inl (cI, 1086, .inl t.2.2.1)), (b 4, .inl (cI, 362, .inl t.2.2.2.2.1)), (b 5, .inl (cZ, 2, .inl t.2.2.2.2.2.1)), (b 6, .inl (cI, 80, .inl t.2.2.2.2.2.2.1))]

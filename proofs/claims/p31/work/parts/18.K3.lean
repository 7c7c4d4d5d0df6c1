/-! worlds as blocks, in any order -/
theorem D_nd {w : va_W} : (∀ (i j : Nat) (p q : Nat × va_E), w[i]? = some p → w[j]? = some q → p.1 = q.1 → i = j) ↔ (w.map (·.1)).Nodup := by
  rw [List.Nodup, List.pairwise_iff_getElem]
  constructor
  · intro h i j hi hj hij e
    have hi' : i < w.length := by simpa using hi
    have hj' : j < w.length := by simpa using hj
    have := h i j w[i] w[j] (List.getElem?_eq_getElem hi') (List.getElem?_eq_getElem hj') (by simpa using e)
    omega
  · intro h i j p q hp hq e
    obtain ⟨hi, rfl⟩ := List.getElem?_eq_some_iff.mp hp
    obtain ⟨hj, rfl⟩ := List.getElem?_eq_some_iff.mp hq
    rcases Nat.lt_trichotomy i j with c | c | c
    · exact absurd (by rw [List.getElem_map, List.getElem_map]; exact e) (h i j (by simpa using hi) (by simpa using hj) c)
    · exact c
    · exact absurd (by rw [List.getElem_map, List.getElem_map]; exact e.symm) (h j i (by simpa using hj) (by simpa using hi) c)
theorem va_P.perm {D : va_G} {cl : List vw_C} {w w' : va_W} {H : Heap} (h : va_P D cl w H) (hp : w.Perm w') : va_P D cl w' H := by
  intro k q hk
  obtain ⟨k2, hk2⟩ := List.getElem?_of_mem (hp.mem_iff.mpr (List.mem_of_getElem? hk))
  exact h k2 q hk2
theorem va_D.perm {A : Nat → Prop} {w w' : va_W} (h : va_D A w) (hp : w.Perm w') : va_D A w' := by
  refine ⟨D_nd.mpr ((hp.map (·.1)).nodup_iff.mp (D_nd.mp h.1)), fun k q hk => ?_⟩
  obtain ⟨k2, hk2⟩ := List.getElem?_of_mem (hp.mem_iff.mpr (List.mem_of_getElem? hk))
  exact h.2 k2 q hk2
theorem q_inl {wr wc : va_W} {k : Nat} {q : Nat × va_E} (h : wr[k]? = some q) : (wr ++ wc)[k]? = some q := by
  rw [List.getElem?_append_left (List.getElem?_eq_some_iff.mp h).1]; exact h
theorem q_inr {wr wc : va_W} {k : Nat} {q : Nat × va_E} (h : wc[k]? = some q) : (wr ++ wc)[wr.length + k]? = some q := by
  rw [List.getElem?_append_right (by omega), show wr.length + k - wr.length = k by omega]; exact h
theorem va_P.right {D : va_G} {cl : List vw_C} {wr wc : va_W} {H : Heap} (h : va_P D cl (wr ++ wc) H) : va_P D cl wc H := fun _ q hk => h _ q (q_inr hk)
theorem va_P.left {D : va_G} {cl : List vw_C} {wr wc : va_W} {H : Heap} (h : va_P D cl (wr ++ wc) H) : va_P D cl wr H := fun _ q hk => h _ q (q_inl hk)
theorem va_D.right {A : Nat → Prop} {wr wc : va_W} (h : va_D A (wr ++ wc)) : va_D A wc := ⟨fun i j p q hp hq e => by have := h.1 _ _ p q (q_inr hp) (q_inr hq) e; omega, fun _ q hk => h.2 _ q (q_inr hk)⟩
theorem va_D.left {A : Nat → Prop} {wr wc : va_W} (h : va_D A (wr ++ wc)) : va_D A wr := ⟨fun i j p q hp hq e => h.1 _ _ p q (q_inl hp) (q_inl hq) e, fun _ q hk => h.2 _ q (q_inl hk)⟩
theorem q_freep {A0 : Nat → Prop} {W0 wr wc : va_W} {H0 H : Heap} {locs : List Loc} (hs : W0.Perm (wr ++ wc)) (hD : va_D A0 W0) (hS : va_S A0 H0 H locs) (hA : ∀ q, H0.size ≤ q → A0 q) : ∀ q, va_A wc H.size q → A0 q := by
  intro q h
  rcases h with ⟨k, e, h⟩ | h
  · exact (hD.perm hs).2 _ (q, e) (q_inr h)
  · exact hA q (Nat.le_trans hS.1 h)
theorem va_joinp {A0 : Nat → Prop} {D : va_G} {cl : List vw_C} {wc wr w1 : va_W} {H H1 : Heap} (hP : va_P D cl (wr ++ wc) H) (hD : va_D A0 (wr ++ wc)) (hk : ∀ q : Nat, q < H.size → ¬ va_A wc H.size q → H1[q]? = H[q]?) (hF : ∀ q, va_A wc H.size q → A0 q) (hP1 : va_P D cl w1 H1) (hD1 : va_D (va_A wc H.size) w1) : va_P D cl (wr ++ w1) H1 ∧ va_D A0 (wr ++ w1) := by
  have apart : ∀ (k : Nat) (q : Nat × va_E), wr[k]? = some q → q.1 < H.size ∧ ¬ va_A wc H.size q.1 := by
    intro k q hq
    have hl := (hP k q (q_inl hq)).lt
    refine ⟨hl, fun h => ?_⟩
    rcases h with ⟨k2, e, h⟩ | h
    · have h3 := hD.1 k (wr.length + k2) q (q.1, e) (q_inl hq) (q_inr h) rfl
      have h4 := (List.getElem?_eq_some_iff.mp hq).1
      omega
    · omega
  exact ⟨va_P.app (fun k q hq => (hP k q (q_inl hq)).kept (hk q.1 (apart k q hq).1 (apart k q hq).2)) hP1, va_D.app hD.left (hD1.weaken (fun k q _ h => hF q.1 h)) (fun i j x y hx hy hxy => (apart i x hx).2 (by rw [hxy]; exact hD1.2 j y hy))⟩
theorem p4_T (a b c d : va_W) : (a ++ b ++ c ++ d).Perm ((a ++ c ++ d) ++ b) := by simpa [List.append_assoc] using (List.perm_append_comm (l₁ := b) (l₂ := c ++ d)).append_left a
theorem p4_H (a b c d : va_W) : (a ++ b ++ c ++ d).Perm ((a ++ b ++ d) ++ c) := by simpa [List.append_assoc] using (List.perm_append_comm (l₁ := c) (l₂ := d)).append_left (a ++ b)
theorem p4_P (a b c d : va_W) : (a ++ b ++ c ++ d).Perm ((a ++ b ++ c) ++ d) := List.Perm.refl _
theorem p4_A (a b c d : va_W) : (a ++ b ++ c ++ d).Perm ([] ++ (a ++ b ++ c ++ d)) := List.Perm.refl _
theorem p4_HT (a b c d : va_W) : (a ++ b ++ c ++ d).Perm ((a ++ d) ++ (c ++ b)) := by
  have h1 : (b ++ (c ++ d)).Perm (d ++ (c ++ b)) := (List.perm_append_comm (l₁ := b) (l₂ := c ++ d)).trans (by simpa [List.append_assoc] using (List.perm_append_comm (l₁ := c) (l₂ := d)).append_right b)
  simpa [List.append_assoc] using h1.append_left a
section QP
variable {p : Program} {l : Launch} {e : Env} {R : Room} {s : State} {m : MethodId} {args : Array Value} {below : List Frame} {meth : Method} {c : Code} {H : Heap} {locs : List Loc} {cells slots : Nat} {Q : State → Prop}
variable {cc : ByteArray} {pc : Nat} {ls : Array Slot} {rest st0 As : List Value} {D : va_G} {A : Nat → Prop} {tys : List (ClassId × FieldType)} {W0 W1 wc wr w1 : va_W} {H0 : Heap} {own C : String} {index nL n maxL ci b mc ms : Nat} {y : MethodName} {bytes : ByteArray} {ret : Option FieldType} {w Ts : List Cond} {rm : Room} {v : Int32} {fs : List Value} {T : u_T} {N : Nat} {E : State → Prop} {host : String}
/-- a reading call: virtual -/
theorem x_MVNp (S : CallFix p m c cc nL s args Ts own) (hM : Met l y w rm (q_M D tys H.size wc E (.ref b :: As)) (va_Qi (fun r _ => r = v) (q_B D wc H.size w1) (va_A wc H.size)) 0 0 (va_A wc H.size)) (cw : va_CN R s args own index y host bytes maxL ret w rm 0 0 n ∧ (Cond.instanceMethod y).before args s = true ∧ (Cond.selects C y y).before args s = true) (hK : va_K D vwCl tys s) (hP : va_P D vwCl W0 H) (hD : va_D A W0) (hS : va_S A H0 H locs) (hA : ∀ q, H0.size ≤ q → A q) (hEb : q_Bl E) (hE : ∀ U : State, U.heap = H → s.WarmedH U.vm → E U)
    (hs : W0.Perm (wr ++ wc)) (hp : (wr ++ w1).Perm W1) (h0 : wc[0]? = some (b, .inr (ci, fs))) (hc : vwCl[ci]? = some (C, T, N))
    (hn : As.length = n) (hl : ls.size = nL) (hst : st0 = As.reverse ++ .ref b :: rest) (hW : (rest.map fun v => v.category).sum ≤ 8) (hdg : decode cc pc = .ok (.invokevirtual index, 3)) (hf : cells ≤ R.cells ∧ slots ≤ R.slots)
    (kk : ∀ (H1 : Heap) (locs1 : List Loc), va_P D vwCl W1 H1 → va_D A W1 → va_S A H0 H1 locs1 → W p l e R s m args below meth c H1 locs1 cells slots Q (F0 m (pc + 3) ls (.int v :: rest))) : W p l e R s m args below meth c H locs cells slots Q (F0 m pc ls st0) := by
  have hPs := hP.perm hs
  have hDs := hD.perm hs
  have hPc : va_P D vwCl wc H := hPs.right
  have hDc : va_D A wc := hDs.right
  have hFc := q_freep hs hD hS hA
  refine va_calli (mc := 0) (ms := 0) (va_runVN (g := F0 m pc ls st0) S hM cw ⟨q_M_blind hEb, va_recv hK hPc hc h0, fun U hU hW => ⟨rfl, by rw [hU], by rw [hU]; exact hPc, va_K.moved hW.alike hK, hDc.weaken (fun _ _ _ _ => trivial), hE U hU hW⟩⟩ rfl hn hl hst (lv_room hW) hdg hf) hS (fun q _ h => hFc q h) hFc (fun r u t H1 locs1 ht hvm hw hB hz1 hk1 hS1 => ?_)
  obtain ⟨hP1, hD1⟩ := hB
  rw [ht] at hP1
  obtain ⟨hP2, hD2⟩ := va_joinp hPs hDs hk1 hFc hP1 hD1
  rw [hw]
  exact kk H1 locs1 (hP2.perm hp) (hD2.perm hp) hS1
theorem x_VVNp (S : CallFix p m c cc nL s args Ts own) (hM : Met l y w rm (q_M D tys H.size wc E (.ref b :: As)) (va_Qv (fun _ => True) (q_B D wc H.size w1) (va_A wc H.size)) 0 0 (va_A wc H.size)) (cw : va_CN R s args own index y host bytes maxL ret w rm 0 0 n ∧ (Cond.instanceMethod y).before args s = true ∧ (Cond.selects C y y).before args s = true) (hK : va_K D vwCl tys s) (hP : va_P D vwCl W0 H) (hD : va_D A W0) (hS : va_S A H0 H locs) (hA : ∀ q, H0.size ≤ q → A q) (hEb : q_Bl E) (hE : ∀ U : State, U.heap = H → s.WarmedH U.vm → E U)
    (hs : W0.Perm (wr ++ wc)) (hp : (wr ++ w1).Perm W1) (h0 : wc[0]? = some (b, .inr (ci, fs))) (hc : vwCl[ci]? = some (C, T, N))
    (hn : As.length = n) (hl : ls.size = nL) (hst : st0 = As.reverse ++ .ref b :: rest) (hW : (rest.map fun v => v.category).sum ≤ 8) (hdg : decode cc pc = .ok (.invokevirtual index, 3)) (hf : cells ≤ R.cells ∧ slots ≤ R.slots)
    (kk : ∀ (H1 : Heap) (locs1 : List Loc), va_P D vwCl W1 H1 → va_D A W1 → va_S A H0 H1 locs1 → W p l e R s m args below meth c H1 locs1 cells slots Q (F0 m (pc + 3) ls rest)) : W p l e R s m args below meth c H locs cells slots Q (F0 m pc ls st0) := by
  have hPs := hP.perm hs
  have hDs := hD.perm hs
  have hPc : va_P D vwCl wc H := hPs.right
  have hDc : va_D A wc := hDs.right
  have hFc := q_freep hs hD hS hA
  refine va_callv (mc := 0) (ms := 0) (va_runVN (g := F0 m pc ls st0) S hM cw ⟨q_M_blind hEb, va_recv hK hPc hc h0, fun U hU hW => ⟨rfl, by rw [hU], by rw [hU]; exact hPc, va_K.moved hW.alike hK, hDc.weaken (fun _ _ _ _ => trivial), hE U hU hW⟩⟩ rfl hn hl hst (lv_room hW) hdg hf) hS (fun q _ h => hFc q h) hFc (fun u t H1 locs1 ht hvm hw hB hz1 hk1 hS1 => ?_)
  obtain ⟨hP1, hD1⟩ := hB
  rw [ht] at hP1
  obtain ⟨hP2, hD2⟩ := va_joinp hPs hDs hk1 hFc hP1 hD1
  exact kk H1 locs1 (hP2.perm hp) (hD2.perm hp) hS1
theorem x_MVp (S : CallFix p m c cc nL s args Ts own) (hM : Met l y w rm (q_M D tys H.size wc E (.ref b :: As)) (va_Qi (fun r _ => r = v) (q_B D wc H.size w1) (va_A wc H.size)) 0 0 (va_A wc H.size)) (cw : CallW R s args own C index y bytes maxL ret w rm 0 0 n) (hK : va_K D vwCl tys s) (hP : va_P D vwCl W0 H) (hD : va_D A W0) (hS : va_S A H0 H locs) (hA : ∀ q, H0.size ≤ q → A q) (hEb : q_Bl E) (hE : ∀ U : State, U.heap = H → s.WarmedH U.vm → E U)
    (hs : W0.Perm (wr ++ wc)) (hp : (wr ++ w1).Perm W1) (h0 : wc[0]? = some (b, .inr (ci, fs))) (hc : vwCl[ci]? = some (C, T, N))
    (hn : As.length = n) (hl : ls.size = nL) (hst : st0 = As.reverse ++ .ref b :: rest) (hW : (rest.map fun v => v.category).sum ≤ 8) (hdg : decode cc pc = .ok (.invokevirtual index, 3)) (hf : cells ≤ R.cells ∧ slots ≤ R.slots)
    (kk : ∀ (H1 : Heap) (locs1 : List Loc), va_P D vwCl W1 H1 → va_D A W1 → va_S A H0 H1 locs1 → W p l e R s m args below meth c H1 locs1 cells slots Q (F0 m (pc + 3) ls (.int v :: rest))) : W p l e R s m args below meth c H locs cells slots Q (F0 m pc ls st0) := by
  have hPs := hP.perm hs
  have hDs := hD.perm hs
  have hPc : va_P D vwCl wc H := hPs.right
  have hDc : va_D A wc := hDs.right
  have hFc := q_freep hs hD hS hA
  refine va_calli (mc := 0) (ms := 0) (va_runV (g := F0 m pc ls st0) S hM cw ⟨q_M_blind hEb, va_recv hK hPc hc h0, fun U hU hW => ⟨rfl, by rw [hU], by rw [hU]; exact hPc, va_K.moved hW.alike hK, hDc.weaken (fun _ _ _ _ => trivial), hE U hU hW⟩⟩ rfl hn hl hst (lv_room hW) hdg hf) hS (fun q _ h => hFc q h) hFc (fun r u t H1 locs1 ht hvm hw hB hz1 hk1 hS1 => ?_)
  obtain ⟨hP1, hD1⟩ := hB
  rw [ht] at hP1
  obtain ⟨hP2, hD2⟩ := va_joinp hPs hDs hk1 hFc hP1 hD1
  rw [hw]
  exact kk H1 locs1 (hP2.perm hp) (hD2.perm hp) hS1
end QP

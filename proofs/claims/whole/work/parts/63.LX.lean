section G_LX
variable {p : Program} {l : Launch} {e : Env} {s : State} {m : MethodId} {args : Array Value} {below : List Frame} {meth : Method} {c : Code} {D : va_G} {cI cZ cT : ClassId}

/-- a writing call whose world behind it has names of its own -/
theorem x_MGp {R : Room} {H : Heap} {locs : List Loc} {cells slots pc : Nat} {Q : State → Prop} {cc : ByteArray} {ls : Array Slot} {rest st0 As : List Value} {A : Nat → Prop} {tys : List (ClassId × FieldType)} {W0 wc wr : va_W} {H0 : Heap} {own C : String} {index nL n maxL ci b9 mc ms : Nat} {y : MethodName} {bytes : ByteArray} {ret9 : Option FieldType} {w9 Ts : List Cond} {rm : Room} {v : Int32} {fs : List Value} {T : u_T} {N : Nat} {E : State → Prop} {S9 : Type} {w1 : S9 → va_W}
    (S : CallFix p m c cc nL s args Ts own) (hM : Met l y w9 rm (q_M D tys H.size wc E (.ref b9 :: As)) (va_Qi (fun r' (_ : S9) => r' = v) (fun (u : S9) t9 => va_P D vwCl (w1 u) t9.heap ∧ va_D (va_A wc H.size) (w1 u)) (va_A wc H.size)) mc ms (va_A wc H.size)) (cw : CallW R s args own C index y bytes maxL ret9 w9 rm mc ms n) (hK : va_K D vwCl tys s) (hP : va_P D vwCl W0 H) (hD : va_D A W0) (hS : va_S A H0 H locs) (hA : ∀ q, H0.size ≤ q → A q) (hEb : q_Bl E) (hE : ∀ U : State, U.heap = H → s.WarmedH U.vm → E U)
    (hs : W0.Perm (wr ++ wc)) (h0 : wc[0]? = some (b9, .inr (ci, fs))) (hc : vwCl[ci]? = some (C, T, N))
    (hn : As.length = n) (hl : ls.size = nL) (hst : st0 = As.reverse ++ .ref b9 :: rest) (hW : (rest.map fun v => v.category).sum ≤ 8) (hdg : decode cc pc = .ok (.invokevirtual index, 3)) (hf : cells + mc ≤ R.cells ∧ slots + ms ≤ R.slots)
    (kk : ∀ (u : S9) (H1 : Heap) (locs1 : List Loc), va_P D vwCl (wr ++ w1 u) H1 → va_D A (wr ++ w1 u) → va_S A H0 H1 locs1 → W p l e R s m args below meth c H1 locs1 (cells + mc) (slots + ms) Q (F0 m (pc + 3) ls (.int v :: rest))) : W p l e R s m args below meth c H locs cells slots Q (F0 m pc ls st0) := by
  have hPs := hP.perm hs
  have hDs := hD.perm hs
  have hPc : va_P D vwCl wc H := hPs.right
  have hDc : va_D A wc := hDs.right
  have hFc := q_freep hs hD hS hA
  refine va_calli (va_runV (g := F0 m pc ls st0) S hM cw ⟨q_M_blind hEb, va_recv hK hPc hc h0, fun U hU hW => ⟨rfl, by rw [hU], by rw [hU]; exact hPc, va_K.moved hW.alike hK, hDc.weaken (fun _ _ _ _ => trivial), hE U hU hW⟩⟩ rfl hn hl hst (lv_room hW) hdg hf) hS (fun q _ h => hFc q h) hFc (fun r u t H1 locs1 ht hvm hw hB hz1 hk1 hS1 => ?_)
  obtain ⟨hP1, hD1⟩ := hB
  rw [ht] at hP1
  obtain ⟨hP2, hD2⟩ := va_joinp hPs hDs hk1 hFc hP1 hD1
  rw [hw]
  exact kk u H1 locs1 hP2 hD2 hS1
theorem sq0s (a b c d e : va_W) : (a ++ (b ++ c ++ d) ++ e).Perm (e ++ (a ++ b ++ c ++ d)) := by
  refine pmc (fun k h => ?_)
  simp only [List.append_nil, List.nil_append, h]
  omega
theorem sq0n (a b d e : va_W) : (a ++ (b ++ [] ++ d) ++ e).Perm (e ++ (a ++ b ++ d)) := by
  refine pmc (fun k h => ?_)
  simp only [List.append_nil, List.nil_append, h]
  omega
theorem sq1s (a b c d e : va_W) : (a ++ (b ++ d ++ c) ++ e).Perm (e ++ (a ++ b ++ c ++ d)) := by
  refine pmc (fun k h => ?_)
  simp only [List.append_nil, List.nil_append, h]
  omega
theorem sq1n (a b d e : va_W) : (a ++ (b ++ d ++ []) ++ e).Perm (e ++ (a ++ b ++ d)) := by
  refine pmc (fun k h => ?_)
  simp only [List.append_nil, List.nil_append, h]
  omega
theorem sqb (a b c d e : va_W) : (a ++ (b ++ c ++ d) ++ e).Perm (e ++ (a ++ b ++ (c ++ d))) := by
  refine pmc (fun k h => ?_)
  simp only [List.append_nil, List.nil_append, h]
  omega
set_option maxHeartbeats 8000000 in
set_option maxRecDepth 100000 in
theorem lc_save {G : q_G} {bs L : Nat} {xs : Nat → Int32} (J : JT) (hst : St_save J) {Q : State → Prop} (C0 : q_At p s m args meth c code 4 ret RL) (hK : va_K D vwCl (q_tys cI cZ cT) s) (hA : ∀ q, s.heap.size ≤ q → (fun q : Nat => s.heap.size ≤ q) q) (hE : q_E G (fun q : Nat => s.heap.size ≤ q) s) (hX : va_X bs L xs s s.heap) (hbl : bs < s.heap.size) (hbA : ¬ (fun q : Nat => s.heap.size ≤ q) bs) (k : Nat) (hk512 : k < 512) (hi1 : vp_in (nI (4 * k + 1)) L) {cells slots : Nat} (hc : cells + 2 ≤ room_1.cells) (hc2 : slots + 182 ≤ room_1.slots) (w sl o a : Nat) (hs hst_ : Nat) (ta ca : Nat → Nat) (pd sg nm mo : Nat) (b : Nat → Nat) (x0 x1 : Option (Nat × Nat × TT)) (t : TT) (hh : HH) (pp : PP) (mm : MM) (hJ : J k t hh pp (twn x0) (twn x1) mm)
    (kk : ∀ (t : TT) (hh : HH) (pp : PP) (x0 x1 : Option (Nat × Nat × TT)) (mm : MM), J (k + 1) t hh pp (twn x0) (twn x1) mm → ∀ (H : Heap) (locs : List Loc) (ls : Array Slot), va_P D vwCl (((wX w o hs pd sl) ++ (wT cI o a t) ++ (wH cI cT hs hst_ ta ca hh) ++ (wPd cI pd sg nm pp)) ++ (wSl cI cT sl x0 x1) ++ (wM cI cZ mo b mm)) H → va_D (fun q : Nat => s.heap.size ≤ q) (((wX w o hs pd sl) ++ (wT cI o a t) ++ (wH cI cT hs hst_ ta ca hh) ++ (wPd cI pd sg nm pp)) ++ (wSl cI cT sl x0 x1) ++ (wM cI cZ mo b mm)) → va_S (fun q : Nat => s.heap.size ≤ q) s.heap H locs → lv_has ls 4 [(0, .ref bs), (1, .ref w), (2, .ref mo), (3, .int (nI (4 * k)))] → W p l e room_1 s m args below meth c H locs (cells + 2) (slots + 182) Q (F0 m 904 ls []))
    (H : Heap) (locs : List Loc) (ls : Array Slot) (hP : va_P D vwCl (((wX w o hs pd sl) ++ (wT cI o a t) ++ (wH cI cT hs hst_ ta ca hh) ++ (wPd cI pd sg nm pp)) ++ (wSl cI cT sl x0 x1) ++ (wM cI cZ mo b mm)) H) (hD : va_D (fun q : Nat => s.heap.size ≤ q) (((wX w o hs pd sl) ++ (wT cI o a t) ++ (wH cI cT hs hst_ ta ca hh) ++ (wPd cI pd sg nm pp)) ++ (wSl cI cT sl x0 x1) ++ (wM cI cZ mo b mm))) (hS : va_S (fun q : Nat => s.heap.size ≤ q) s.heap H locs) (hl : lv_has ls 4 [(0, .ref bs), (1, .ref w), (2, .ref mo), (3, .int (nI (4 * k)))]) : W p l e room_1 s m args below meth c H locs cells slots Q (F0 m 858 ls []) := by
  obtain ⟨hx, hb, hr0, hml, hown, hts, hlocks⟩ := id C0
  have hF : CallFix p m c code 4 s args BW RL := ⟨hx, hb, hml, hown, hts⟩
  obtain ⟨y1, ey1⟩ : ∃ y, y = xs (nI (4 * k + 1)).toNatClampNeg := ⟨_, rfl⟩
  obtain ⟨r, z, hr, hz, hv, hJ1⟩ := hst k t hh pp (twn x0) (twn x1) mm y1 hk512 hJ
  refine lv_aload_n hx hb dL_law_858 rfl (lv_at hl 1 rfl) ?_
  refine lv_aload_n hx hb dL_law_859 rfl (lv_at hl 0 rfl) ?_
  refine lv_iload_n hx hb dL_law_860 rfl (lv_at hl 3 rfl) ?_
  refine lv_iconst (v := 1) hx hb dL_law_861 (by decide) ?_
  refine lv_iadd hx hb dL_law_862 ?_
  rw [show nI (4 * k) + 1 = nI (4 * k + 1) from nI_add _ _]
  refine va_sld hx hb hX hbl hbA hS hi1 dL_law_863 ?_
  rw [← ey1]
  by_cases c0 : y1 = 0
  · unfold f_X3_save at hr
    rw [if_pos c0] at hr
    subst c0
    rcases x0 with _ | ⟨o3, a3, t3⟩
    · obtain ⟨u3, h3, hr⟩ := bE hr
      have h3 : f_X2_init = some u3 := h3
      have hP : va_P D vwCl ((wM cI cZ mo b mm) ++ (((wX w o hs pd sl) ++ (wT cI o a t) ++ (wH cI cT hs hst_ ta ca hh) ++ (wPd cI pd sg nm pp)) ++ (wA cT sl (fun j => if j = 0 then none else adr x1)) ++ (part cI x1))) H := hP.perm (sq0n ((wX w o hs pd sl) ++ (wT cI o a t) ++ (wH cI cT hs hst_ ta ca hh) ++ (wPd cI pd sg nm pp)) (wA cT sl (fun j => if j = 0 then none else adr x1)) (part cI x1) (wM cI cZ mo b mm))
      have hD : va_D (fun q : Nat => s.heap.size ≤ q) ((wM cI cZ mo b mm) ++ (((wX w o hs pd sl) ++ (wT cI o a t) ++ (wH cI cT hs hst_ ta ca hh) ++ (wPd cI pd sg nm pp)) ++ (wA cT sl (fun j => if j = 0 then none else adr x1)) ++ (part cI x1))) := hD.perm (sq0n ((wX w o hs pd sl) ++ (wT cI o a t) ++ (wH cI cT hs hst_ ta ca hh) ++ (wPd cI pd sg nm pp)) (wA cT sl (fun j => if j = 0 then none else adr x1)) (part cI x1) (wM cI cZ mo b mm))
      obtain ⟨v4, h4, hr⟩ := bE hr
      cases hr
      refine x_MGp (As := [.int 0]) (rest := []) (wr := wM cI cZ mo b mm) (wc := ((wX w o hs pd sl) ++ (wT cI o a t) ++ (wH cI cT hs hst_ ta ca hh) ++ (wPd cI pd sg nm pp)) ++ (wA cT sl (fun j => if j = 0 then none else adr x1)) ++ (part cI x1)) hF (c_X3_save_0n l D cI cZ cT G _ w sl o a t hs hst_ ta ca hh pd sg nm pp (adr x1) (part cI x1) u3 v4 h3 h4) (cwV 1 hts (gqV mw_787 mw_788 mw_789 mw_51 mw_410) rfl rfl rfl hd_X3_save ⟨Nat.le_of_ble_eq_true rfl, Nat.le_of_ble_eq_true rfl⟩) hK hP hD hS hA q_E_bl (q_E_go hE hS (q_freep (List.Perm.refl _) hD hS hA)) (List.Perm.refl _) rfl rfl rfl hl.1 rfl (Nat.le_of_ble_eq_true rfl) dL_law_864 ⟨hc, hc2⟩ (fun u H locs hP hD hS => ?_)
      have hP : va_P D vwCl (((wX w o hs pd sl) ++ (wT cI o a t) ++ (wH cI cT hs hst_ ta ca hh) ++ (wPd cI pd sg nm pp)) ++ (wSl cI cT sl (some (u.1, u.2, v4)) x1) ++ (wM cI cZ mo b mm)) H := hP.perm (sq0s ((wX w o hs pd sl) ++ (wT cI o a t) ++ (wH cI cT hs hst_ ta ca hh) ++ (wPd cI pd sg nm pp)) (wA cT sl (fun j => if j = 0 then some u.1 else adr x1)) (wT cI u.1 u.2 v4) (part cI x1) (wM cI cZ mo b mm)).symm
      have hD : va_D (fun q : Nat => s.heap.size ≤ q) (((wX w o hs pd sl) ++ (wT cI o a t) ++ (wH cI cT hs hst_ ta ca hh) ++ (wPd cI pd sg nm pp)) ++ (wSl cI cT sl (some (u.1, u.2, v4)) x1) ++ (wM cI cZ mo b mm)) := hD.perm (sq0s ((wX w o hs pd sl) ++ (wT cI o a t) ++ (wH cI cT hs hst_ ta ca hh) ++ (wPd cI pd sg nm pp)) (wA cT sl (fun j => if j = 0 then some u.1 else adr x1)) (wT cI u.1 u.2 v4) (part cI x1) (wM cI cZ mo b mm)).symm
      refine lv_aload_n hx hb dL_law_867 rfl (lv_at hl 2 rfl) ?_
      refine lv_aload_n hx hb dL_law_868 rfl (lv_at hl 0 rfl) ?_
      refine lv_iload_n hx hb dL_law_869 rfl (lv_at hl 3 rfl) ?_
      refine lv_iconst (v := 1) hx hb dL_law_870 (by decide) ?_
      refine lv_iadd hx hb dL_law_871 ?_
      rw [show nI (4 * k) + 1 = nI (4 * k + 1) from nI_add _ _]
      refine va_sld hx hb hX hbl hbA hS hi1 dL_law_872 ?_
      rw [← ey1]
      refine x_MVp (As := [.int (0 : Int32)]) (rest := [.int t.2.2.2.1]) (wr := ((wX w o hs pd sl) ++ (wT cI o a t) ++ (wH cI cT hs hst_ ta ca hh) ++ (wPd cI pd sg nm pp)) ++ (wSl cI cT sl (some (u.1, u.2, v4)) x1)) (W1 := ((wX w o hs pd sl) ++ (wT cI o a t) ++ (wH cI cT hs hst_ ta ca hh) ++ (wPd cI pd sg nm pp)) ++ (wSl cI cT sl (some (u.1, u.2, v4)) x1) ++ (wM cI cZ mo b z.2)) hF (c_X4_save l D cI cZ cT _ mo b mm (0 : Int32) z hz) (cwV 1 hts (gqV mw_790 mw_791 mw_792 mw_428 mw_618) rfl rfl rfl hd_X4_save ⟨Nat.le_of_ble_eq_true rfl, Nat.le_of_ble_eq_true rfl⟩) hK hP hD hS hA q_T_bl (fun _ _ _ => (trivial : True)) (List.Perm.refl _) (List.Perm.refl _) rfl rfl rfl hl.1 rfl (Nat.le_of_ble_eq_true rfl) dL_law_873 ⟨hc, hc2⟩ (fun H locs hP hD hS => ?_)
      refine lv_icmp_eq (tgt := 904) hx hb dL_law_876 (by decide) (fun c9 => ?_) (fun c9 => ?_)
      · exact kk _ _ _ (some (u.1, u.2, v4)) x1 _ hJ1 H locs ls hP hD hS hl
      · exact absurd hv c9
    · obtain ⟨u3, h3, hr⟩ := bE hr
      have hP : va_P D vwCl ((wM cI cZ mo b mm) ++ (((wX w o hs pd sl) ++ (wT cI o a t) ++ (wH cI cT hs hst_ ta ca hh) ++ (wPd cI pd sg nm pp)) ++ (wA cT sl (fun j => if j = 0 then some o3 else adr x1)) ++ (wT cI o3 a3 t3) ++ (part cI x1))) H := hP.perm (sq0s ((wX w o hs pd sl) ++ (wT cI o a t) ++ (wH cI cT hs hst_ ta ca hh) ++ (wPd cI pd sg nm pp)) (wA cT sl (fun j => if j = 0 then some o3 else adr x1)) (wT cI o3 a3 t3) (part cI x1) (wM cI cZ mo b mm))
      have hD : va_D (fun q : Nat => s.heap.size ≤ q) ((wM cI cZ mo b mm) ++ (((wX w o hs pd sl) ++ (wT cI o a t) ++ (wH cI cT hs hst_ ta ca hh) ++ (wPd cI pd sg nm pp)) ++ (wA cT sl (fun j => if j = 0 then some o3 else adr x1)) ++ (wT cI o3 a3 t3) ++ (part cI x1))) := hD.perm (sq0s ((wX w o hs pd sl) ++ (wT cI o a t) ++ (wH cI cT hs hst_ ta ca hh) ++ (wPd cI pd sg nm pp)) (wA cT sl (fun j => if j = 0 then some o3 else adr x1)) (wT cI o3 a3 t3) (part cI x1) (wM cI cZ mo b mm))
      have h3 : some t3 = some u3 := h3
      cases h3
      obtain ⟨v4, h4, hr⟩ := bE hr
      cases hr
      refine x_MGp (As := [.int 0]) (rest := []) (wr := wM cI cZ mo b mm) (wc := ((wX w o hs pd sl) ++ (wT cI o a t) ++ (wH cI cT hs hst_ ta ca hh) ++ (wPd cI pd sg nm pp)) ++ (wA cT sl (fun j => if j = 0 then some o3 else adr x1)) ++ (wT cI o3 a3 t3) ++ (part cI x1)) hF (c_X3_save_0s l D cI cZ cT G _ w sl o a t hs hst_ ta ca hh pd sg nm pp (adr x1) (part cI x1) o3 a3 t3 v4 h4) (cwV 1 hts (gqV mw_787 mw_788 mw_789 mw_51 mw_410) rfl rfl rfl hd_X3_save ⟨Nat.le_of_ble_eq_true rfl, Nat.le_of_ble_eq_true rfl⟩) hK hP hD hS hA q_E_bl (q_E_go hE hS (q_freep (List.Perm.refl _) hD hS hA)) (List.Perm.refl _) rfl rfl rfl hl.1 rfl (Nat.le_of_ble_eq_true rfl) dL_law_864 ⟨hc, hc2⟩ (fun u H locs hP hD hS => ?_)
      have hP : va_P D vwCl (((wX w o hs pd sl) ++ (wT cI o a t) ++ (wH cI cT hs hst_ ta ca hh) ++ (wPd cI pd sg nm pp)) ++ (wSl cI cT sl (some (u.1, u.2, v4)) x1) ++ (wM cI cZ mo b mm)) H := hP.perm (sq0s ((wX w o hs pd sl) ++ (wT cI o a t) ++ (wH cI cT hs hst_ ta ca hh) ++ (wPd cI pd sg nm pp)) (wA cT sl (fun j => if j = 0 then some u.1 else adr x1)) (wT cI u.1 u.2 v4) (part cI x1) (wM cI cZ mo b mm)).symm
      have hD : va_D (fun q : Nat => s.heap.size ≤ q) (((wX w o hs pd sl) ++ (wT cI o a t) ++ (wH cI cT hs hst_ ta ca hh) ++ (wPd cI pd sg nm pp)) ++ (wSl cI cT sl (some (u.1, u.2, v4)) x1) ++ (wM cI cZ mo b mm)) := hD.perm (sq0s ((wX w o hs pd sl) ++ (wT cI o a t) ++ (wH cI cT hs hst_ ta ca hh) ++ (wPd cI pd sg nm pp)) (wA cT sl (fun j => if j = 0 then some u.1 else adr x1)) (wT cI u.1 u.2 v4) (part cI x1) (wM cI cZ mo b mm)).symm
      refine lv_aload_n hx hb dL_law_867 rfl (lv_at hl 2 rfl) ?_
      refine lv_aload_n hx hb dL_law_868 rfl (lv_at hl 0 rfl) ?_
      refine lv_iload_n hx hb dL_law_869 rfl (lv_at hl 3 rfl) ?_
      refine lv_iconst (v := 1) hx hb dL_law_870 (by decide) ?_
      refine lv_iadd hx hb dL_law_871 ?_
      rw [show nI (4 * k) + 1 = nI (4 * k + 1) from nI_add _ _]
      refine va_sld hx hb hX hbl hbA hS hi1 dL_law_872 ?_
      rw [← ey1]
      refine x_MVp (As := [.int (0 : Int32)]) (rest := [.int t.2.2.2.1]) (wr := ((wX w o hs pd sl) ++ (wT cI o a t) ++ (wH cI cT hs hst_ ta ca hh) ++ (wPd cI pd sg nm pp)) ++ (wSl cI cT sl (some (u.1, u.2, v4)) x1)) (W1 := ((wX w o hs pd sl) ++ (wT cI o a t) ++ (wH cI cT hs hst_ ta ca hh) ++ (wPd cI pd sg nm pp)) ++ (wSl cI cT sl (some (u.1, u.2, v4)) x1) ++ (wM cI cZ mo b z.2)) hF (c_X4_save l D cI cZ cT _ mo b mm (0 : Int32) z hz) (cwV 1 hts (gqV mw_790 mw_791 mw_792 mw_428 mw_618) rfl rfl rfl hd_X4_save ⟨Nat.le_of_ble_eq_true rfl, Nat.le_of_ble_eq_true rfl⟩) hK hP hD hS hA q_T_bl (fun _ _ _ => (trivial : True)) (List.Perm.refl _) (List.Perm.refl _) rfl rfl rfl hl.1 rfl (Nat.le_of_ble_eq_true rfl) dL_law_873 ⟨hc, hc2⟩ (fun H locs hP hD hS => ?_)
      refine lv_icmp_eq (tgt := 904) hx hb dL_law_876 (by decide) (fun c9 => ?_) (fun c9 => ?_)
      · exact kk _ _ _ (some (u.1, u.2, v4)) x1 _ hJ1 H locs ls hP hD hS hl
      · exact absurd hv c9
  by_cases c1 : y1 = 1
  · unfold f_X3_save at hr
    rw [if_neg c0, if_pos c1] at hr
    subst c1
    rcases x1 with _ | ⟨o3, a3, t3⟩
    · obtain ⟨u3, h3, hr⟩ := bE hr
      have h3 : f_X2_init = some u3 := h3
      have hP : va_P D vwCl ((wM cI cZ mo b mm) ++ (((wX w o hs pd sl) ++ (wT cI o a t) ++ (wH cI cT hs hst_ ta ca hh) ++ (wPd cI pd sg nm pp)) ++ (wA cT sl (fun j => if j = 0 then adr x0 else none)) ++ (part cI x0))) H := hP.perm (sq1n ((wX w o hs pd sl) ++ (wT cI o a t) ++ (wH cI cT hs hst_ ta ca hh) ++ (wPd cI pd sg nm pp)) (wA cT sl (fun j => if j = 0 then adr x0 else none)) (part cI x0) (wM cI cZ mo b mm))
      have hD : va_D (fun q : Nat => s.heap.size ≤ q) ((wM cI cZ mo b mm) ++ (((wX w o hs pd sl) ++ (wT cI o a t) ++ (wH cI cT hs hst_ ta ca hh) ++ (wPd cI pd sg nm pp)) ++ (wA cT sl (fun j => if j = 0 then adr x0 else none)) ++ (part cI x0))) := hD.perm (sq1n ((wX w o hs pd sl) ++ (wT cI o a t) ++ (wH cI cT hs hst_ ta ca hh) ++ (wPd cI pd sg nm pp)) (wA cT sl (fun j => if j = 0 then adr x0 else none)) (part cI x0) (wM cI cZ mo b mm))
      obtain ⟨v4, h4, hr⟩ := bE hr
      cases hr
      refine x_MGp (As := [.int 1]) (rest := []) (wr := wM cI cZ mo b mm) (wc := ((wX w o hs pd sl) ++ (wT cI o a t) ++ (wH cI cT hs hst_ ta ca hh) ++ (wPd cI pd sg nm pp)) ++ (wA cT sl (fun j => if j = 0 then adr x0 else none)) ++ (part cI x0)) hF (c_X3_save_1n l D cI cZ cT G _ w sl o a t hs hst_ ta ca hh pd sg nm pp (adr x0) (part cI x0) u3 v4 h3 h4) (cwV 1 hts (gqV mw_787 mw_788 mw_789 mw_51 mw_410) rfl rfl rfl hd_X3_save ⟨Nat.le_of_ble_eq_true rfl, Nat.le_of_ble_eq_true rfl⟩) hK hP hD hS hA q_E_bl (q_E_go hE hS (q_freep (List.Perm.refl _) hD hS hA)) (List.Perm.refl _) rfl rfl rfl hl.1 rfl (Nat.le_of_ble_eq_true rfl) dL_law_864 ⟨hc, hc2⟩ (fun u H locs hP hD hS => ?_)
      have hP : va_P D vwCl (((wX w o hs pd sl) ++ (wT cI o a t) ++ (wH cI cT hs hst_ ta ca hh) ++ (wPd cI pd sg nm pp)) ++ (wSl cI cT sl x0 (some (u.1, u.2, v4))) ++ (wM cI cZ mo b mm)) H := hP.perm (sq1s ((wX w o hs pd sl) ++ (wT cI o a t) ++ (wH cI cT hs hst_ ta ca hh) ++ (wPd cI pd sg nm pp)) (wA cT sl (fun j => if j = 0 then adr x0 else some u.1)) (wT cI u.1 u.2 v4) (part cI x0) (wM cI cZ mo b mm)).symm
      have hD : va_D (fun q : Nat => s.heap.size ≤ q) (((wX w o hs pd sl) ++ (wT cI o a t) ++ (wH cI cT hs hst_ ta ca hh) ++ (wPd cI pd sg nm pp)) ++ (wSl cI cT sl x0 (some (u.1, u.2, v4))) ++ (wM cI cZ mo b mm)) := hD.perm (sq1s ((wX w o hs pd sl) ++ (wT cI o a t) ++ (wH cI cT hs hst_ ta ca hh) ++ (wPd cI pd sg nm pp)) (wA cT sl (fun j => if j = 0 then adr x0 else some u.1)) (wT cI u.1 u.2 v4) (part cI x0) (wM cI cZ mo b mm)).symm
      refine lv_aload_n hx hb dL_law_867 rfl (lv_at hl 2 rfl) ?_
      refine lv_aload_n hx hb dL_law_868 rfl (lv_at hl 0 rfl) ?_
      refine lv_iload_n hx hb dL_law_869 rfl (lv_at hl 3 rfl) ?_
      refine lv_iconst (v := 1) hx hb dL_law_870 (by decide) ?_
      refine lv_iadd hx hb dL_law_871 ?_
      rw [show nI (4 * k) + 1 = nI (4 * k + 1) from nI_add _ _]
      refine va_sld hx hb hX hbl hbA hS hi1 dL_law_872 ?_
      rw [← ey1]
      refine x_MVp (As := [.int (1 : Int32)]) (rest := [.int t.2.2.2.1]) (wr := ((wX w o hs pd sl) ++ (wT cI o a t) ++ (wH cI cT hs hst_ ta ca hh) ++ (wPd cI pd sg nm pp)) ++ (wSl cI cT sl x0 (some (u.1, u.2, v4)))) (W1 := ((wX w o hs pd sl) ++ (wT cI o a t) ++ (wH cI cT hs hst_ ta ca hh) ++ (wPd cI pd sg nm pp)) ++ (wSl cI cT sl x0 (some (u.1, u.2, v4))) ++ (wM cI cZ mo b z.2)) hF (c_X4_save l D cI cZ cT _ mo b mm (1 : Int32) z hz) (cwV 1 hts (gqV mw_790 mw_791 mw_792 mw_428 mw_618) rfl rfl rfl hd_X4_save ⟨Nat.le_of_ble_eq_true rfl, Nat.le_of_ble_eq_true rfl⟩) hK hP hD hS hA q_T_bl (fun _ _ _ => (trivial : True)) (List.Perm.refl _) (List.Perm.refl _) rfl rfl rfl hl.1 rfl (Nat.le_of_ble_eq_true rfl) dL_law_873 ⟨hc, hc2⟩ (fun H locs hP hD hS => ?_)
      refine lv_icmp_eq (tgt := 904) hx hb dL_law_876 (by decide) (fun c9 => ?_) (fun c9 => ?_)
      · exact kk _ _ _ x0 (some (u.1, u.2, v4)) _ hJ1 H locs ls hP hD hS hl
      · exact absurd hv c9
    · obtain ⟨u3, h3, hr⟩ := bE hr
      have hP : va_P D vwCl ((wM cI cZ mo b mm) ++ (((wX w o hs pd sl) ++ (wT cI o a t) ++ (wH cI cT hs hst_ ta ca hh) ++ (wPd cI pd sg nm pp)) ++ (wA cT sl (fun j => if j = 0 then adr x0 else some o3)) ++ (wT cI o3 a3 t3) ++ (part cI x0))) H := hP.perm (sq1s ((wX w o hs pd sl) ++ (wT cI o a t) ++ (wH cI cT hs hst_ ta ca hh) ++ (wPd cI pd sg nm pp)) (wA cT sl (fun j => if j = 0 then adr x0 else some o3)) (wT cI o3 a3 t3) (part cI x0) (wM cI cZ mo b mm))
      have hD : va_D (fun q : Nat => s.heap.size ≤ q) ((wM cI cZ mo b mm) ++ (((wX w o hs pd sl) ++ (wT cI o a t) ++ (wH cI cT hs hst_ ta ca hh) ++ (wPd cI pd sg nm pp)) ++ (wA cT sl (fun j => if j = 0 then adr x0 else some o3)) ++ (wT cI o3 a3 t3) ++ (part cI x0))) := hD.perm (sq1s ((wX w o hs pd sl) ++ (wT cI o a t) ++ (wH cI cT hs hst_ ta ca hh) ++ (wPd cI pd sg nm pp)) (wA cT sl (fun j => if j = 0 then adr x0 else some o3)) (wT cI o3 a3 t3) (part cI x0) (wM cI cZ mo b mm))
      have h3 : some t3 = some u3 := h3
      cases h3
      obtain ⟨v4, h4, hr⟩ := bE hr
      cases hr
      refine x_MGp (As := [.int 1]) (rest := []) (wr := wM cI cZ mo b mm) (wc := ((wX w o hs pd sl) ++ (wT cI o a t) ++ (wH cI cT hs hst_ ta ca hh) ++ (wPd cI pd sg nm pp)) ++ (wA cT sl (fun j => if j = 0 then adr x0 else some o3)) ++ (wT cI o3 a3 t3) ++ (part cI x0)) hF (c_X3_save_1s l D cI cZ cT G _ w sl o a t hs hst_ ta ca hh pd sg nm pp (adr x0) (part cI x0) o3 a3 t3 v4 h4) (cwV 1 hts (gqV mw_787 mw_788 mw_789 mw_51 mw_410) rfl rfl rfl hd_X3_save ⟨Nat.le_of_ble_eq_true rfl, Nat.le_of_ble_eq_true rfl⟩) hK hP hD hS hA q_E_bl (q_E_go hE hS (q_freep (List.Perm.refl _) hD hS hA)) (List.Perm.refl _) rfl rfl rfl hl.1 rfl (Nat.le_of_ble_eq_true rfl) dL_law_864 ⟨hc, hc2⟩ (fun u H locs hP hD hS => ?_)
      have hP : va_P D vwCl (((wX w o hs pd sl) ++ (wT cI o a t) ++ (wH cI cT hs hst_ ta ca hh) ++ (wPd cI pd sg nm pp)) ++ (wSl cI cT sl x0 (some (u.1, u.2, v4))) ++ (wM cI cZ mo b mm)) H := hP.perm (sq1s ((wX w o hs pd sl) ++ (wT cI o a t) ++ (wH cI cT hs hst_ ta ca hh) ++ (wPd cI pd sg nm pp)) (wA cT sl (fun j => if j = 0 then adr x0 else some u.1)) (wT cI u.1 u.2 v4) (part cI x0) (wM cI cZ mo b mm)).symm
      have hD : va_D (fun q : Nat => s.heap.size ≤ q) (((wX w o hs pd sl) ++ (wT cI o a t) ++ (wH cI cT hs hst_ ta ca hh) ++ (wPd cI pd sg nm pp)) ++ (wSl cI cT sl x0 (some (u.1, u.2, v4))) ++ (wM cI cZ mo b mm)) := hD.perm (sq1s ((wX w o hs pd sl) ++ (wT cI o a t) ++ (wH cI cT hs hst_ ta ca hh) ++ (wPd cI pd sg nm pp)) (wA cT sl (fun j => if j = 0 then adr x0 else some u.1)) (wT cI u.1 u.2 v4) (part cI x0) (wM cI cZ mo b mm)).symm
      refine lv_aload_n hx hb dL_law_867 rfl (lv_at hl 2 rfl) ?_
      refine lv_aload_n hx hb dL_law_868 rfl (lv_at hl 0 rfl) ?_
      refine lv_iload_n hx hb dL_law_869 rfl (lv_at hl 3 rfl) ?_
      refine lv_iconst (v := 1) hx hb dL_law_870 (by decide) ?_
      refine lv_iadd hx hb dL_law_871 ?_
      rw [show nI (4 * k) + 1 = nI (4 * k + 1) from nI_add _ _]
      refine va_sld hx hb hX hbl hbA hS hi1 dL_law_872 ?_
      rw [← ey1]
      refine x_MVp (As := [.int (1 : Int32)]) (rest := [.int t.2.2.2.1]) (wr := ((wX w o hs pd sl) ++ (wT cI o a t) ++ (wH cI cT hs hst_ ta ca hh) ++ (wPd cI pd sg nm pp)) ++ (wSl cI cT sl x0 (some (u.1, u.2, v4)))) (W1 := ((wX w o hs pd sl) ++ (wT cI o a t) ++ (wH cI cT hs hst_ ta ca hh) ++ (wPd cI pd sg nm pp)) ++ (wSl cI cT sl x0 (some (u.1, u.2, v4))) ++ (wM cI cZ mo b z.2)) hF (c_X4_save l D cI cZ cT _ mo b mm (1 : Int32) z hz) (cwV 1 hts (gqV mw_790 mw_791 mw_792 mw_428 mw_618) rfl rfl rfl hd_X4_save ⟨Nat.le_of_ble_eq_true rfl, Nat.le_of_ble_eq_true rfl⟩) hK hP hD hS hA q_T_bl (fun _ _ _ => (trivial : True)) (List.Perm.refl _) (List.Perm.refl _) rfl rfl rfl hl.1 rfl (Nat.le_of_ble_eq_true rfl) dL_law_873 ⟨hc, hc2⟩ (fun H locs hP hD hS => ?_)
      refine lv_icmp_eq (tgt := 904) hx hb dL_law_876 (by decide) (fun c9 => ?_) (fun c9 => ?_)
      · exact kk _ _ _ x0 (some (u.1, u.2, v4)) _ hJ1 H locs ls hP hD hS hl
      · exact absurd hv c9
  unfold f_X3_save at hr
  rw [if_neg c0, if_neg c1] at hr
  obtain ⟨zb, hkb, hr⟩ := bE hr
  by_cases c2 : zb = 0
  · have hr := xt c2 hr
    subst c2
    cases hr
    have hP : va_P D vwCl ((wM cI cZ mo b mm) ++ (((wX w o hs pd sl) ++ (wT cI o a t) ++ (wH cI cT hs hst_ ta ca hh) ++ (wPd cI pd sg nm pp)) ++ (wA cT sl (fun j => if j = 0 then adr x0 else adr x1)) ++ ((part cI x0) ++ (part cI x1)))) H := hP.perm (sqb ((wX w o hs pd sl) ++ (wT cI o a t) ++ (wH cI cT hs hst_ ta ca hh) ++ (wPd cI pd sg nm pp)) (wA cT sl (fun j => if j = 0 then adr x0 else adr x1)) (part cI x0) (part cI x1) (wM cI cZ mo b mm))
    have hD : va_D (fun q : Nat => s.heap.size ≤ q) ((wM cI cZ mo b mm) ++ (((wX w o hs pd sl) ++ (wT cI o a t) ++ (wH cI cT hs hst_ ta ca hh) ++ (wPd cI pd sg nm pp)) ++ (wA cT sl (fun j => if j = 0 then adr x0 else adr x1)) ++ ((part cI x0) ++ (part cI x1)))) := hD.perm (sqb ((wX w o hs pd sl) ++ (wT cI o a t) ++ (wH cI cT hs hst_ ta ca hh) ++ (wPd cI pd sg nm pp)) (wA cT sl (fun j => if j = 0 then adr x0 else adr x1)) (part cI x0) (part cI x1) (wM cI cZ mo b mm))
    refine x_MGp (As := [.int y1]) (rest := []) (wr := wM cI cZ mo b mm) (wc := ((wX w o hs pd sl) ++ (wT cI o a t) ++ (wH cI cT hs hst_ ta ca hh) ++ (wPd cI pd sg nm pp)) ++ (wA cT sl (fun j => if j = 0 then adr x0 else adr x1)) ++ ((part cI x0) ++ (part cI x1))) hF (c_X3_save_bad l D cI cZ cT G _ w sl o a t hs hst_ ta ca hh pd sg nm pp (fun j => if j = 0 then adr x0 else adr x1) ((part cI x0) ++ (part cI x1)) y1 hkb) (cwV 1 hts (gqV mw_787 mw_788 mw_789 mw_51 mw_410) rfl rfl rfl hd_X3_save ⟨Nat.le_of_ble_eq_true rfl, Nat.le_of_ble_eq_true rfl⟩) hK hP hD hS hA q_E_bl (q_E_go hE hS (q_freep (List.Perm.refl _) hD hS hA)) (List.Perm.refl _) rfl rfl rfl hl.1 rfl (Nat.le_of_ble_eq_true rfl) dL_law_864 ⟨hc, hc2⟩ (fun u H locs hP hD hS => ?_)
    have hP : va_P D vwCl (((wX w o hs pd sl) ++ (wT cI o a t) ++ (wH cI cT hs hst_ ta ca hh) ++ (wPd cI pd sg nm pp)) ++ (wSl cI cT sl x0 x1) ++ (wM cI cZ mo b mm)) H := hP.perm (sqb ((wX w o hs pd sl) ++ (wT cI o a t) ++ (wH cI cT hs hst_ ta ca hh) ++ (wPd cI pd sg nm pp)) (wA cT sl (fun j => if j = 0 then adr x0 else adr x1)) (part cI x0) (part cI x1) (wM cI cZ mo b mm)).symm
    have hD : va_D (fun q : Nat => s.heap.size ≤ q) (((wX w o hs pd sl) ++ (wT cI o a t) ++ (wH cI cT hs hst_ ta ca hh) ++ (wPd cI pd sg nm pp)) ++ (wSl cI cT sl x0 x1) ++ (wM cI cZ mo b mm)) := hD.perm (sqb ((wX w o hs pd sl) ++ (wT cI o a t) ++ (wH cI cT hs hst_ ta ca hh) ++ (wPd cI pd sg nm pp)) (wA cT sl (fun j => if j = 0 then adr x0 else adr x1)) (part cI x0) (part cI x1) (wM cI cZ mo b mm)).symm
    refine lv_aload_n hx hb dL_law_867 rfl (lv_at hl 2 rfl) ?_
    refine lv_aload_n hx hb dL_law_868 rfl (lv_at hl 0 rfl) ?_
    refine lv_iload_n hx hb dL_law_869 rfl (lv_at hl 3 rfl) ?_
    refine lv_iconst (v := 1) hx hb dL_law_870 (by decide) ?_
    refine lv_iadd hx hb dL_law_871 ?_
    rw [show nI (4 * k) + 1 = nI (4 * k + 1) from nI_add _ _]
    refine va_sld hx hb hX hbl hbA hS hi1 dL_law_872 ?_
    rw [← ey1]
    refine x_MVp (As := [.int y1]) (rest := [.int (-2)]) (wr := ((wX w o hs pd sl) ++ (wT cI o a t) ++ (wH cI cT hs hst_ ta ca hh) ++ (wPd cI pd sg nm pp)) ++ (wSl cI cT sl x0 x1)) (W1 := ((wX w o hs pd sl) ++ (wT cI o a t) ++ (wH cI cT hs hst_ ta ca hh) ++ (wPd cI pd sg nm pp)) ++ (wSl cI cT sl x0 x1) ++ (wM cI cZ mo b z.2)) hF (c_X4_save l D cI cZ cT _ mo b mm y1 z hz) (cwV 1 hts (gqV mw_790 mw_791 mw_792 mw_428 mw_618) rfl rfl rfl hd_X4_save ⟨Nat.le_of_ble_eq_true rfl, Nat.le_of_ble_eq_true rfl⟩) hK hP hD hS hA q_T_bl (fun _ _ _ => (trivial : True)) (List.Perm.refl _) (List.Perm.refl _) rfl rfl rfl hl.1 rfl (Nat.le_of_ble_eq_true rfl) dL_law_873 ⟨hc, hc2⟩ (fun H locs hP hD hS => ?_)
    refine lv_icmp_eq (tgt := 904) hx hb dL_law_876 (by decide) (fun c9 => ?_) (fun c9 => ?_)
    · exact kk _ _ _ x0 x1 _ hJ1 H locs ls hP hD hS hl
    · exact absurd hv c9
  exact absurd (xf c2 hr) (by simp)
set_option maxHeartbeats 8000000 in
set_option maxRecDepth 100000 in
theorem lc_restore {G : q_G} {bs L : Nat} {xs : Nat → Int32} (J : JT) (hst : St_restore J) {Q : State → Prop} (C0 : q_At p s m args meth c code 4 ret RL) (hK : va_K D vwCl (q_tys cI cZ cT) s) (hA : ∀ q, s.heap.size ≤ q → (fun q : Nat => s.heap.size ≤ q) q) (hE : q_E G (fun q : Nat => s.heap.size ≤ q) s) (hX : va_X bs L xs s s.heap) (hbl : bs < s.heap.size) (hbA : ¬ (fun q : Nat => s.heap.size ≤ q) bs) (k : Nat) (hk512 : k < 512) (hi1 : vp_in (nI (4 * k + 1)) L) {cells slots : Nat} (hc : cells + 0 ≤ room_1.cells) (hc2 : slots + 0 ≤ room_1.slots) (w sl o a : Nat) (hs hst_ : Nat) (ta ca : Nat → Nat) (pd sg nm mo : Nat) (b : Nat → Nat) (x0 x1 : Option (Nat × Nat × TT)) (t : TT) (hh : HH) (pp : PP) (mm : MM) (hJ : J k t hh pp (twn x0) (twn x1) mm)
    (kk : ∀ (t : TT) (hh : HH) (pp : PP) (x0 x1 : Option (Nat × Nat × TT)) (mm : MM), J (k + 1) t hh pp (twn x0) (twn x1) mm → ∀ (H : Heap) (locs : List Loc) (ls : Array Slot), va_P D vwCl (((wX w o hs pd sl) ++ (wT cI o a t) ++ (wH cI cT hs hst_ ta ca hh) ++ (wPd cI pd sg nm pp)) ++ (wSl cI cT sl x0 x1) ++ (wM cI cZ mo b mm)) H → va_D (fun q : Nat => s.heap.size ≤ q) (((wX w o hs pd sl) ++ (wT cI o a t) ++ (wH cI cT hs hst_ ta ca hh) ++ (wPd cI pd sg nm pp)) ++ (wSl cI cT sl x0 x1) ++ (wM cI cZ mo b mm)) → va_S (fun q : Nat => s.heap.size ≤ q) s.heap H locs → lv_has ls 4 [(0, .ref bs), (1, .ref w), (2, .ref mo), (3, .int (nI (4 * k)))] → W p l e room_1 s m args below meth c H locs (cells + 0) (slots + 0) Q (F0 m 904 ls []))
    (H : Heap) (locs : List Loc) (ls : Array Slot) (hP : va_P D vwCl (((wX w o hs pd sl) ++ (wT cI o a t) ++ (wH cI cT hs hst_ ta ca hh) ++ (wPd cI pd sg nm pp)) ++ (wSl cI cT sl x0 x1) ++ (wM cI cZ mo b mm)) H) (hD : va_D (fun q : Nat => s.heap.size ≤ q) (((wX w o hs pd sl) ++ (wT cI o a t) ++ (wH cI cT hs hst_ ta ca hh) ++ (wPd cI pd sg nm pp)) ++ (wSl cI cT sl x0 x1) ++ (wM cI cZ mo b mm))) (hS : va_S (fun q : Nat => s.heap.size ≤ q) s.heap H locs) (hl : lv_has ls 4 [(0, .ref bs), (1, .ref w), (2, .ref mo), (3, .int (nI (4 * k)))]) : W p l e room_1 s m args below meth c H locs cells slots Q (F0 m 881 ls []) := by
  obtain ⟨hx, hb, hr0, hml, hown, hts, hlocks⟩ := id C0
  have hF : CallFix p m c code 4 s args BW RL := ⟨hx, hb, hml, hown, hts⟩
  obtain ⟨y1, ey1⟩ : ∃ y, y = xs (nI (4 * k + 1)).toNatClampNeg := ⟨_, rfl⟩
  obtain ⟨r, z, hr, hz, hv, hJ1⟩ := hst k t hh pp (twn x0) (twn x1) mm y1 hk512 hJ
  refine lv_aload_n hx hb dL_law_881 rfl (lv_at hl 1 rfl) ?_
  refine lv_aload_n hx hb dL_law_882 rfl (lv_at hl 0 rfl) ?_
  refine lv_iload_n hx hb dL_law_883 rfl (lv_at hl 3 rfl) ?_
  refine lv_iconst (v := 1) hx hb dL_law_884 (by decide) ?_
  refine lv_iadd hx hb dL_law_885 ?_
  rw [show nI (4 * k) + 1 = nI (4 * k + 1) from nI_add _ _]
  refine va_sld hx hb hX hbl hbA hS hi1 dL_law_886 ?_
  rw [← ey1]
  by_cases c0 : y1 = 0
  · rw [f_X3_restore, if_pos c0] at hr
    subst c0
    rcases x0 with _ | ⟨o3, a3, t3⟩
    · have hr : f_back t hh none = some r := hr
      rw [f_back] at hr
      have hP : va_P D vwCl ((wM cI cZ mo b mm) ++ (((wX w o hs pd sl) ++ (wT cI o a t) ++ (wH cI cT hs hst_ ta ca hh) ++ (wPd cI pd sg nm pp)) ++ (wA cT sl (fun j => if j = 0 then none else adr x1)) ++ (part cI x1))) H := hP.perm (sq0n ((wX w o hs pd sl) ++ (wT cI o a t) ++ (wH cI cT hs hst_ ta ca hh) ++ (wPd cI pd sg nm pp)) (wA cT sl (fun j => if j = 0 then none else adr x1)) (part cI x1) (wM cI cZ mo b mm))
      have hD : va_D (fun q : Nat => s.heap.size ≤ q) ((wM cI cZ mo b mm) ++ (((wX w o hs pd sl) ++ (wT cI o a t) ++ (wH cI cT hs hst_ ta ca hh) ++ (wPd cI pd sg nm pp)) ++ (wA cT sl (fun j => if j = 0 then none else adr x1)) ++ (part cI x1))) := hD.perm (sq0n ((wX w o hs pd sl) ++ (wT cI o a t) ++ (wH cI cT hs hst_ ta ca hh) ++ (wPd cI pd sg nm pp)) (wA cT sl (fun j => if j = 0 then none else adr x1)) (part cI x1) (wM cI cZ mo b mm))
      cases hr
      refine x_MGp (As := [.int 0]) (rest := []) (wr := wM cI cZ mo b mm) (wc := ((wX w o hs pd sl) ++ (wT cI o a t) ++ (wH cI cT hs hst_ ta ca hh) ++ (wPd cI pd sg nm pp)) ++ (wA cT sl (fun j => if j = 0 then none else adr x1)) ++ (part cI x1)) hF (c_X3_restore_0n l D cI cZ cT G _ w sl o a t hs hst_ ta ca hh pd sg nm pp (adr x1) (part cI x1)) (cwV 1 hts (gqV mw_793 mw_794 mw_795 mw_51 mw_411) rfl rfl rfl hd_X3_restore ⟨Nat.le_of_ble_eq_true rfl, Nat.le_of_ble_eq_true rfl⟩) hK hP hD hS hA q_E_bl (q_E_go hE hS (q_freep (List.Perm.refl _) hD hS hA)) (List.Perm.refl _) rfl rfl rfl hl.1 rfl (Nat.le_of_ble_eq_true rfl) dL_law_887 ⟨hc, hc2⟩ (fun u H locs hP hD hS => ?_)
      have hP : va_P D vwCl (((wX w o hs pd sl) ++ (wT cI o a t) ++ (wH cI cT hs hst_ ta ca hh) ++ (wPd cI pd sg nm pp)) ++ (wSl cI cT sl (none : Option (Nat × Nat × TT)) x1) ++ (wM cI cZ mo b mm)) H := hP.perm (sq0n ((wX w o hs pd sl) ++ (wT cI o a t) ++ (wH cI cT hs hst_ ta ca hh) ++ (wPd cI pd sg nm pp)) (wA cT sl (fun j => if j = 0 then none else adr x1)) (part cI x1) (wM cI cZ mo b mm)).symm
      have hD : va_D (fun q : Nat => s.heap.size ≤ q) (((wX w o hs pd sl) ++ (wT cI o a t) ++ (wH cI cT hs hst_ ta ca hh) ++ (wPd cI pd sg nm pp)) ++ (wSl cI cT sl (none : Option (Nat × Nat × TT)) x1) ++ (wM cI cZ mo b mm)) := hD.perm (sq0n ((wX w o hs pd sl) ++ (wT cI o a t) ++ (wH cI cT hs hst_ ta ca hh) ++ (wPd cI pd sg nm pp)) (wA cT sl (fun j => if j = 0 then none else adr x1)) (part cI x1) (wM cI cZ mo b mm)).symm
      refine lv_aload_n hx hb dL_law_890 rfl (lv_at hl 2 rfl) ?_
      refine lv_aload_n hx hb dL_law_891 rfl (lv_at hl 0 rfl) ?_
      refine lv_iload_n hx hb dL_law_892 rfl (lv_at hl 3 rfl) ?_
      refine lv_iconst (v := 1) hx hb dL_law_893 (by decide) ?_
      refine lv_iadd hx hb dL_law_894 ?_
      rw [show nI (4 * k) + 1 = nI (4 * k + 1) from nI_add _ _]
      refine va_sld hx hb hX hbl hbA hS hi1 dL_law_895 ?_
      rw [← ey1]
      refine x_MVp (As := [.int (0 : Int32)]) (rest := [.int (-5)]) (wr := ((wX w o hs pd sl) ++ (wT cI o a t) ++ (wH cI cT hs hst_ ta ca hh) ++ (wPd cI pd sg nm pp)) ++ (wSl cI cT sl (none : Option (Nat × Nat × TT)) x1)) (W1 := ((wX w o hs pd sl) ++ (wT cI o a t) ++ (wH cI cT hs hst_ ta ca hh) ++ (wPd cI pd sg nm pp)) ++ (wSl cI cT sl (none : Option (Nat × Nat × TT)) x1) ++ (wM cI cZ mo b z.2)) hF (c_X4_restore l D cI cZ cT _ mo b mm (0 : Int32) z hz) (cwV 1 hts (gqV mw_796 mw_797 mw_798 mw_428 mw_619) rfl rfl rfl hd_X4_restore ⟨Nat.le_of_ble_eq_true rfl, Nat.le_of_ble_eq_true rfl⟩) hK hP hD hS hA q_T_bl (fun _ _ _ => (trivial : True)) (List.Perm.refl _) (List.Perm.refl _) rfl rfl rfl hl.1 rfl (Nat.le_of_ble_eq_true rfl) dL_law_896 ⟨hc, hc2⟩ (fun H locs hP hD hS => ?_)
      refine lv_icmp_eq (tgt := 904) hx hb dL_law_899 (by decide) (fun c9 => ?_) (fun c9 => ?_)
      · exact kk _ _ _ (none : Option (Nat × Nat × TT)) x1 _ hJ1 H locs ls hP hD hS hl
      · exact absurd hv c9
    · have hr : f_back t hh (some t3) = some r := hr
      rw [f_back] at hr
      have hP : va_P D vwCl ((wM cI cZ mo b mm) ++ (((wX w o hs pd sl) ++ (wT cI o a t) ++ (wH cI cT hs hst_ ta ca hh) ++ (wPd cI pd sg nm pp)) ++ (wA cT sl (fun j => if j = 0 then some o3 else adr x1)) ++ (wT cI o3 a3 t3) ++ (part cI x1))) H := hP.perm (sq0s ((wX w o hs pd sl) ++ (wT cI o a t) ++ (wH cI cT hs hst_ ta ca hh) ++ (wPd cI pd sg nm pp)) (wA cT sl (fun j => if j = 0 then some o3 else adr x1)) (wT cI o3 a3 t3) (part cI x1) (wM cI cZ mo b mm))
      have hD : va_D (fun q : Nat => s.heap.size ≤ q) ((wM cI cZ mo b mm) ++ (((wX w o hs pd sl) ++ (wT cI o a t) ++ (wH cI cT hs hst_ ta ca hh) ++ (wPd cI pd sg nm pp)) ++ (wA cT sl (fun j => if j = 0 then some o3 else adr x1)) ++ (wT cI o3 a3 t3) ++ (part cI x1))) := hD.perm (sq0s ((wX w o hs pd sl) ++ (wT cI o a t) ++ (wH cI cT hs hst_ ta ca hh) ++ (wPd cI pd sg nm pp)) (wA cT sl (fun j => if j = 0 then some o3 else adr x1)) (wT cI o3 a3 t3) (part cI x1) (wM cI cZ mo b mm))
      obtain ⟨h1, hn, hr⟩ := bE hr
      obtain ⟨v4, h4, hr⟩ := bE hr
      obtain ⟨z5, h5, hr⟩ := bE hr
      cases hr
      refine x_MGp (As := [.int 0]) (rest := []) (wr := wM cI cZ mo b mm) (wc := ((wX w o hs pd sl) ++ (wT cI o a t) ++ (wH cI cT hs hst_ ta ca hh) ++ (wPd cI pd sg nm pp)) ++ (wA cT sl (fun j => if j = 0 then some o3 else adr x1)) ++ (wT cI o3 a3 t3) ++ (part cI x1)) hF (c_X3_restore_0s l D cI cZ cT G _ w sl o a t hs hst_ ta ca hh pd sg nm pp (adr x1) (part cI x1) o3 a3 t3 v4 h1 z5 hn h4 h5) (cwV 1 hts (gqV mw_793 mw_794 mw_795 mw_51 mw_411) rfl rfl rfl hd_X3_restore ⟨Nat.le_of_ble_eq_true rfl, Nat.le_of_ble_eq_true rfl⟩) hK hP hD hS hA q_E_bl (q_E_go hE hS (q_freep (List.Perm.refl _) hD hS hA)) (List.Perm.refl _) rfl rfl rfl hl.1 rfl (Nat.le_of_ble_eq_true rfl) dL_law_887 ⟨hc, hc2⟩ (fun u H locs hP hD hS => ?_)
      have hP : va_P D vwCl (((wX w o hs pd sl) ++ (wT cI o a v4) ++ (wH cI cT hs hst_ ta ca z5.2) ++ (wPd cI pd sg nm pp)) ++ (wSl cI cT sl (some (o3, a3, t3)) x1) ++ (wM cI cZ mo b mm)) H := hP.perm (sq0s ((wX w o hs pd sl) ++ (wT cI o a v4) ++ (wH cI cT hs hst_ ta ca z5.2) ++ (wPd cI pd sg nm pp)) (wA cT sl (fun j => if j = 0 then some o3 else adr x1)) (wT cI o3 a3 t3) (part cI x1) (wM cI cZ mo b mm)).symm
      have hD : va_D (fun q : Nat => s.heap.size ≤ q) (((wX w o hs pd sl) ++ (wT cI o a v4) ++ (wH cI cT hs hst_ ta ca z5.2) ++ (wPd cI pd sg nm pp)) ++ (wSl cI cT sl (some (o3, a3, t3)) x1) ++ (wM cI cZ mo b mm)) := hD.perm (sq0s ((wX w o hs pd sl) ++ (wT cI o a v4) ++ (wH cI cT hs hst_ ta ca z5.2) ++ (wPd cI pd sg nm pp)) (wA cT sl (fun j => if j = 0 then some o3 else adr x1)) (wT cI o3 a3 t3) (part cI x1) (wM cI cZ mo b mm)).symm
      refine lv_aload_n hx hb dL_law_890 rfl (lv_at hl 2 rfl) ?_
      refine lv_aload_n hx hb dL_law_891 rfl (lv_at hl 0 rfl) ?_
      refine lv_iload_n hx hb dL_law_892 rfl (lv_at hl 3 rfl) ?_
      refine lv_iconst (v := 1) hx hb dL_law_893 (by decide) ?_
      refine lv_iadd hx hb dL_law_894 ?_
      rw [show nI (4 * k) + 1 = nI (4 * k + 1) from nI_add _ _]
      refine va_sld hx hb hX hbl hbA hS hi1 dL_law_895 ?_
      rw [← ey1]
      refine x_MVp (As := [.int (0 : Int32)]) (rest := [.int z5.1]) (wr := ((wX w o hs pd sl) ++ (wT cI o a v4) ++ (wH cI cT hs hst_ ta ca z5.2) ++ (wPd cI pd sg nm pp)) ++ (wSl cI cT sl (some (o3, a3, t3)) x1)) (W1 := ((wX w o hs pd sl) ++ (wT cI o a v4) ++ (wH cI cT hs hst_ ta ca z5.2) ++ (wPd cI pd sg nm pp)) ++ (wSl cI cT sl (some (o3, a3, t3)) x1) ++ (wM cI cZ mo b z.2)) hF (c_X4_restore l D cI cZ cT _ mo b mm (0 : Int32) z hz) (cwV 1 hts (gqV mw_796 mw_797 mw_798 mw_428 mw_619) rfl rfl rfl hd_X4_restore ⟨Nat.le_of_ble_eq_true rfl, Nat.le_of_ble_eq_true rfl⟩) hK hP hD hS hA q_T_bl (fun _ _ _ => (trivial : True)) (List.Perm.refl _) (List.Perm.refl _) rfl rfl rfl hl.1 rfl (Nat.le_of_ble_eq_true rfl) dL_law_896 ⟨hc, hc2⟩ (fun H locs hP hD hS => ?_)
      refine lv_icmp_eq (tgt := 904) hx hb dL_law_899 (by decide) (fun c9 => ?_) (fun c9 => ?_)
      · exact kk _ _ _ (some (o3, a3, t3)) x1 _ hJ1 H locs ls hP hD hS hl
      · exact absurd hv c9
  by_cases c1 : y1 = 1
  · rw [f_X3_restore, if_neg c0, if_pos c1] at hr
    subst c1
    rcases x1 with _ | ⟨o3, a3, t3⟩
    · have hr : f_back t hh none = some r := hr
      rw [f_back] at hr
      have hP : va_P D vwCl ((wM cI cZ mo b mm) ++ (((wX w o hs pd sl) ++ (wT cI o a t) ++ (wH cI cT hs hst_ ta ca hh) ++ (wPd cI pd sg nm pp)) ++ (wA cT sl (fun j => if j = 0 then adr x0 else none)) ++ (part cI x0))) H := hP.perm (sq1n ((wX w o hs pd sl) ++ (wT cI o a t) ++ (wH cI cT hs hst_ ta ca hh) ++ (wPd cI pd sg nm pp)) (wA cT sl (fun j => if j = 0 then adr x0 else none)) (part cI x0) (wM cI cZ mo b mm))
      have hD : va_D (fun q : Nat => s.heap.size ≤ q) ((wM cI cZ mo b mm) ++ (((wX w o hs pd sl) ++ (wT cI o a t) ++ (wH cI cT hs hst_ ta ca hh) ++ (wPd cI pd sg nm pp)) ++ (wA cT sl (fun j => if j = 0 then adr x0 else none)) ++ (part cI x0))) := hD.perm (sq1n ((wX w o hs pd sl) ++ (wT cI o a t) ++ (wH cI cT hs hst_ ta ca hh) ++ (wPd cI pd sg nm pp)) (wA cT sl (fun j => if j = 0 then adr x0 else none)) (part cI x0) (wM cI cZ mo b mm))
      cases hr
      refine x_MGp (As := [.int 1]) (rest := []) (wr := wM cI cZ mo b mm) (wc := ((wX w o hs pd sl) ++ (wT cI o a t) ++ (wH cI cT hs hst_ ta ca hh) ++ (wPd cI pd sg nm pp)) ++ (wA cT sl (fun j => if j = 0 then adr x0 else none)) ++ (part cI x0)) hF (c_X3_restore_1n l D cI cZ cT G _ w sl o a t hs hst_ ta ca hh pd sg nm pp (adr x0) (part cI x0)) (cwV 1 hts (gqV mw_793 mw_794 mw_795 mw_51 mw_411) rfl rfl rfl hd_X3_restore ⟨Nat.le_of_ble_eq_true rfl, Nat.le_of_ble_eq_true rfl⟩) hK hP hD hS hA q_E_bl (q_E_go hE hS (q_freep (List.Perm.refl _) hD hS hA)) (List.Perm.refl _) rfl rfl rfl hl.1 rfl (Nat.le_of_ble_eq_true rfl) dL_law_887 ⟨hc, hc2⟩ (fun u H locs hP hD hS => ?_)
      have hP : va_P D vwCl (((wX w o hs pd sl) ++ (wT cI o a t) ++ (wH cI cT hs hst_ ta ca hh) ++ (wPd cI pd sg nm pp)) ++ (wSl cI cT sl x0 (none : Option (Nat × Nat × TT))) ++ (wM cI cZ mo b mm)) H := hP.perm (sq1n ((wX w o hs pd sl) ++ (wT cI o a t) ++ (wH cI cT hs hst_ ta ca hh) ++ (wPd cI pd sg nm pp)) (wA cT sl (fun j => if j = 0 then adr x0 else none)) (part cI x0) (wM cI cZ mo b mm)).symm
      have hD : va_D (fun q : Nat => s.heap.size ≤ q) (((wX w o hs pd sl) ++ (wT cI o a t) ++ (wH cI cT hs hst_ ta ca hh) ++ (wPd cI pd sg nm pp)) ++ (wSl cI cT sl x0 (none : Option (Nat × Nat × TT))) ++ (wM cI cZ mo b mm)) := hD.perm (sq1n ((wX w o hs pd sl) ++ (wT cI o a t) ++ (wH cI cT hs hst_ ta ca hh) ++ (wPd cI pd sg nm pp)) (wA cT sl (fun j => if j = 0 then adr x0 else none)) (part cI x0) (wM cI cZ mo b mm)).symm
      refine lv_aload_n hx hb dL_law_890 rfl (lv_at hl 2 rfl) ?_
      refine lv_aload_n hx hb dL_law_891 rfl (lv_at hl 0 rfl) ?_
      refine lv_iload_n hx hb dL_law_892 rfl (lv_at hl 3 rfl) ?_
      refine lv_iconst (v := 1) hx hb dL_law_893 (by decide) ?_
      refine lv_iadd hx hb dL_law_894 ?_
      rw [show nI (4 * k) + 1 = nI (4 * k + 1) from nI_add _ _]
      refine va_sld hx hb hX hbl hbA hS hi1 dL_law_895 ?_
      rw [← ey1]
      refine x_MVp (As := [.int (1 : Int32)]) (rest := [.int (-5)]) (wr := ((wX w o hs pd sl) ++ (wT cI o a t) ++ (wH cI cT hs hst_ ta ca hh) ++ (wPd cI pd sg nm pp)) ++ (wSl cI cT sl x0 (none : Option (Nat × Nat × TT)))) (W1 := ((wX w o hs pd sl) ++ (wT cI o a t) ++ (wH cI cT hs hst_ ta ca hh) ++ (wPd cI pd sg nm pp)) ++ (wSl cI cT sl x0 (none : Option (Nat × Nat × TT))) ++ (wM cI cZ mo b z.2)) hF (c_X4_restore l D cI cZ cT _ mo b mm (1 : Int32) z hz) (cwV 1 hts (gqV mw_796 mw_797 mw_798 mw_428 mw_619) rfl rfl rfl hd_X4_restore ⟨Nat.le_of_ble_eq_true rfl, Nat.le_of_ble_eq_true rfl⟩) hK hP hD hS hA q_T_bl (fun _ _ _ => (trivial : True)) (List.Perm.refl _) (List.Perm.refl _) rfl rfl rfl hl.1 rfl (Nat.le_of_ble_eq_true rfl) dL_law_896 ⟨hc, hc2⟩ (fun H locs hP hD hS => ?_)
      refine lv_icmp_eq (tgt := 904) hx hb dL_law_899 (by decide) (fun c9 => ?_) (fun c9 => ?_)
      · exact kk _ _ _ x0 (none : Option (Nat × Nat × TT)) _ hJ1 H locs ls hP hD hS hl
      · exact absurd hv c9
    · have hr : f_back t hh (some t3) = some r := hr
      rw [f_back] at hr
      have hP : va_P D vwCl ((wM cI cZ mo b mm) ++ (((wX w o hs pd sl) ++ (wT cI o a t) ++ (wH cI cT hs hst_ ta ca hh) ++ (wPd cI pd sg nm pp)) ++ (wA cT sl (fun j => if j = 0 then adr x0 else some o3)) ++ (wT cI o3 a3 t3) ++ (part cI x0))) H := hP.perm (sq1s ((wX w o hs pd sl) ++ (wT cI o a t) ++ (wH cI cT hs hst_ ta ca hh) ++ (wPd cI pd sg nm pp)) (wA cT sl (fun j => if j = 0 then adr x0 else some o3)) (wT cI o3 a3 t3) (part cI x0) (wM cI cZ mo b mm))
      have hD : va_D (fun q : Nat => s.heap.size ≤ q) ((wM cI cZ mo b mm) ++ (((wX w o hs pd sl) ++ (wT cI o a t) ++ (wH cI cT hs hst_ ta ca hh) ++ (wPd cI pd sg nm pp)) ++ (wA cT sl (fun j => if j = 0 then adr x0 else some o3)) ++ (wT cI o3 a3 t3) ++ (part cI x0))) := hD.perm (sq1s ((wX w o hs pd sl) ++ (wT cI o a t) ++ (wH cI cT hs hst_ ta ca hh) ++ (wPd cI pd sg nm pp)) (wA cT sl (fun j => if j = 0 then adr x0 else some o3)) (wT cI o3 a3 t3) (part cI x0) (wM cI cZ mo b mm))
      obtain ⟨h1, hn, hr⟩ := bE hr
      obtain ⟨v4, h4, hr⟩ := bE hr
      obtain ⟨z5, h5, hr⟩ := bE hr
      cases hr
      refine x_MGp (As := [.int 1]) (rest := []) (wr := wM cI cZ mo b mm) (wc := ((wX w o hs pd sl) ++ (wT cI o a t) ++ (wH cI cT hs hst_ ta ca hh) ++ (wPd cI pd sg nm pp)) ++ (wA cT sl (fun j => if j = 0 then adr x0 else some o3)) ++ (wT cI o3 a3 t3) ++ (part cI x0)) hF (c_X3_restore_1s l D cI cZ cT G _ w sl o a t hs hst_ ta ca hh pd sg nm pp (adr x0) (part cI x0) o3 a3 t3 v4 h1 z5 hn h4 h5) (cwV 1 hts (gqV mw_793 mw_794 mw_795 mw_51 mw_411) rfl rfl rfl hd_X3_restore ⟨Nat.le_of_ble_eq_true rfl, Nat.le_of_ble_eq_true rfl⟩) hK hP hD hS hA q_E_bl (q_E_go hE hS (q_freep (List.Perm.refl _) hD hS hA)) (List.Perm.refl _) rfl rfl rfl hl.1 rfl (Nat.le_of_ble_eq_true rfl) dL_law_887 ⟨hc, hc2⟩ (fun u H locs hP hD hS => ?_)
      have hP : va_P D vwCl (((wX w o hs pd sl) ++ (wT cI o a v4) ++ (wH cI cT hs hst_ ta ca z5.2) ++ (wPd cI pd sg nm pp)) ++ (wSl cI cT sl x0 (some (o3, a3, t3))) ++ (wM cI cZ mo b mm)) H := hP.perm (sq1s ((wX w o hs pd sl) ++ (wT cI o a v4) ++ (wH cI cT hs hst_ ta ca z5.2) ++ (wPd cI pd sg nm pp)) (wA cT sl (fun j => if j = 0 then adr x0 else some o3)) (wT cI o3 a3 t3) (part cI x0) (wM cI cZ mo b mm)).symm
      have hD : va_D (fun q : Nat => s.heap.size ≤ q) (((wX w o hs pd sl) ++ (wT cI o a v4) ++ (wH cI cT hs hst_ ta ca z5.2) ++ (wPd cI pd sg nm pp)) ++ (wSl cI cT sl x0 (some (o3, a3, t3))) ++ (wM cI cZ mo b mm)) := hD.perm (sq1s ((wX w o hs pd sl) ++ (wT cI o a v4) ++ (wH cI cT hs hst_ ta ca z5.2) ++ (wPd cI pd sg nm pp)) (wA cT sl (fun j => if j = 0 then adr x0 else some o3)) (wT cI o3 a3 t3) (part cI x0) (wM cI cZ mo b mm)).symm
      refine lv_aload_n hx hb dL_law_890 rfl (lv_at hl 2 rfl) ?_
      refine lv_aload_n hx hb dL_law_891 rfl (lv_at hl 0 rfl) ?_
      refine lv_iload_n hx hb dL_law_892 rfl (lv_at hl 3 rfl) ?_
      refine lv_iconst (v := 1) hx hb dL_law_893 (by decide) ?_
      refine lv_iadd hx hb dL_law_894 ?_
      rw [show nI (4 * k) + 1 = nI (4 * k + 1) from nI_add _ _]
      refine va_sld hx hb hX hbl hbA hS hi1 dL_law_895 ?_
      rw [← ey1]
      refine x_MVp (As := [.int (1 : Int32)]) (rest := [.int z5.1]) (wr := ((wX w o hs pd sl) ++ (wT cI o a v4) ++ (wH cI cT hs hst_ ta ca z5.2) ++ (wPd cI pd sg nm pp)) ++ (wSl cI cT sl x0 (some (o3, a3, t3)))) (W1 := ((wX w o hs pd sl) ++ (wT cI o a v4) ++ (wH cI cT hs hst_ ta ca z5.2) ++ (wPd cI pd sg nm pp)) ++ (wSl cI cT sl x0 (some (o3, a3, t3))) ++ (wM cI cZ mo b z.2)) hF (c_X4_restore l D cI cZ cT _ mo b mm (1 : Int32) z hz) (cwV 1 hts (gqV mw_796 mw_797 mw_798 mw_428 mw_619) rfl rfl rfl hd_X4_restore ⟨Nat.le_of_ble_eq_true rfl, Nat.le_of_ble_eq_true rfl⟩) hK hP hD hS hA q_T_bl (fun _ _ _ => (trivial : True)) (List.Perm.refl _) (List.Perm.refl _) rfl rfl rfl hl.1 rfl (Nat.le_of_ble_eq_true rfl) dL_law_896 ⟨hc, hc2⟩ (fun H locs hP hD hS => ?_)
      refine lv_icmp_eq (tgt := 904) hx hb dL_law_899 (by decide) (fun c9 => ?_) (fun c9 => ?_)
      · exact kk _ _ _ x0 (some (o3, a3, t3)) _ hJ1 H locs ls hP hD hS hl
      · exact absurd hv c9
  rw [f_X3_restore, if_neg c0, if_neg c1] at hr
  obtain ⟨zb, hkb, hr⟩ := bE hr
  by_cases c2 : zb = 0
  · have hr := xt c2 hr
    subst c2
    cases hr
    have hP : va_P D vwCl ((wM cI cZ mo b mm) ++ (((wX w o hs pd sl) ++ (wT cI o a t) ++ (wH cI cT hs hst_ ta ca hh) ++ (wPd cI pd sg nm pp)) ++ (wA cT sl (fun j => if j = 0 then adr x0 else adr x1)) ++ ((part cI x0) ++ (part cI x1)))) H := hP.perm (sqb ((wX w o hs pd sl) ++ (wT cI o a t) ++ (wH cI cT hs hst_ ta ca hh) ++ (wPd cI pd sg nm pp)) (wA cT sl (fun j => if j = 0 then adr x0 else adr x1)) (part cI x0) (part cI x1) (wM cI cZ mo b mm))
    have hD : va_D (fun q : Nat => s.heap.size ≤ q) ((wM cI cZ mo b mm) ++ (((wX w o hs pd sl) ++ (wT cI o a t) ++ (wH cI cT hs hst_ ta ca hh) ++ (wPd cI pd sg nm pp)) ++ (wA cT sl (fun j => if j = 0 then adr x0 else adr x1)) ++ ((part cI x0) ++ (part cI x1)))) := hD.perm (sqb ((wX w o hs pd sl) ++ (wT cI o a t) ++ (wH cI cT hs hst_ ta ca hh) ++ (wPd cI pd sg nm pp)) (wA cT sl (fun j => if j = 0 then adr x0 else adr x1)) (part cI x0) (part cI x1) (wM cI cZ mo b mm))
    refine x_MGp (As := [.int y1]) (rest := []) (wr := wM cI cZ mo b mm) (wc := ((wX w o hs pd sl) ++ (wT cI o a t) ++ (wH cI cT hs hst_ ta ca hh) ++ (wPd cI pd sg nm pp)) ++ (wA cT sl (fun j => if j = 0 then adr x0 else adr x1)) ++ ((part cI x0) ++ (part cI x1))) hF (c_X3_restore_bad l D cI cZ cT G _ w sl o a t hs hst_ ta ca hh pd sg nm pp (fun j => if j = 0 then adr x0 else adr x1) ((part cI x0) ++ (part cI x1)) y1 hkb) (cwV 1 hts (gqV mw_793 mw_794 mw_795 mw_51 mw_411) rfl rfl rfl hd_X3_restore ⟨Nat.le_of_ble_eq_true rfl, Nat.le_of_ble_eq_true rfl⟩) hK hP hD hS hA q_E_bl (q_E_go hE hS (q_freep (List.Perm.refl _) hD hS hA)) (List.Perm.refl _) rfl rfl rfl hl.1 rfl (Nat.le_of_ble_eq_true rfl) dL_law_887 ⟨hc, hc2⟩ (fun u H locs hP hD hS => ?_)
    have hP : va_P D vwCl (((wX w o hs pd sl) ++ (wT cI o a t) ++ (wH cI cT hs hst_ ta ca hh) ++ (wPd cI pd sg nm pp)) ++ (wSl cI cT sl x0 x1) ++ (wM cI cZ mo b mm)) H := hP.perm (sqb ((wX w o hs pd sl) ++ (wT cI o a t) ++ (wH cI cT hs hst_ ta ca hh) ++ (wPd cI pd sg nm pp)) (wA cT sl (fun j => if j = 0 then adr x0 else adr x1)) (part cI x0) (part cI x1) (wM cI cZ mo b mm)).symm
    have hD : va_D (fun q : Nat => s.heap.size ≤ q) (((wX w o hs pd sl) ++ (wT cI o a t) ++ (wH cI cT hs hst_ ta ca hh) ++ (wPd cI pd sg nm pp)) ++ (wSl cI cT sl x0 x1) ++ (wM cI cZ mo b mm)) := hD.perm (sqb ((wX w o hs pd sl) ++ (wT cI o a t) ++ (wH cI cT hs hst_ ta ca hh) ++ (wPd cI pd sg nm pp)) (wA cT sl (fun j => if j = 0 then adr x0 else adr x1)) (part cI x0) (part cI x1) (wM cI cZ mo b mm)).symm
    refine lv_aload_n hx hb dL_law_890 rfl (lv_at hl 2 rfl) ?_
    refine lv_aload_n hx hb dL_law_891 rfl (lv_at hl 0 rfl) ?_
    refine lv_iload_n hx hb dL_law_892 rfl (lv_at hl 3 rfl) ?_
    refine lv_iconst (v := 1) hx hb dL_law_893 (by decide) ?_
    refine lv_iadd hx hb dL_law_894 ?_
    rw [show nI (4 * k) + 1 = nI (4 * k + 1) from nI_add _ _]
    refine va_sld hx hb hX hbl hbA hS hi1 dL_law_895 ?_
    rw [← ey1]
    refine x_MVp (As := [.int y1]) (rest := [.int (-2)]) (wr := ((wX w o hs pd sl) ++ (wT cI o a t) ++ (wH cI cT hs hst_ ta ca hh) ++ (wPd cI pd sg nm pp)) ++ (wSl cI cT sl x0 x1)) (W1 := ((wX w o hs pd sl) ++ (wT cI o a t) ++ (wH cI cT hs hst_ ta ca hh) ++ (wPd cI pd sg nm pp)) ++ (wSl cI cT sl x0 x1) ++ (wM cI cZ mo b z.2)) hF (c_X4_restore l D cI cZ cT _ mo b mm y1 z hz) (cwV 1 hts (gqV mw_796 mw_797 mw_798 mw_428 mw_619) rfl rfl rfl hd_X4_restore ⟨Nat.le_of_ble_eq_true rfl, Nat.le_of_ble_eq_true rfl⟩) hK hP hD hS hA q_T_bl (fun _ _ _ => (trivial : True)) (List.Perm.refl _) (List.Perm.refl _) rfl rfl rfl hl.1 rfl (Nat.le_of_ble_eq_true rfl) dL_law_896 ⟨hc, hc2⟩ (fun H locs hP hD hS => ?_)
    refine lv_icmp_eq (tgt := 904) hx hb dL_law_899 (by decide) (fun c9 => ?_) (fun c9 => ?_)
    · exact kk _ _ _ x0 x1 _ hJ1 H locs ls hP hD hS hl
    · exact absurd hv c9
  exact absurd (xf c2 hr) (by simp)
end G_LX

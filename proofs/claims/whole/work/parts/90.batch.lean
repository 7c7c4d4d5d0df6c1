section G_LW0
variable {p : Program} {l : Launch} {e : Env} {s : State} {m : MethodId} {args : Array Value} {below : List Frame} {meth : Method} {c : Code} {D : va_G} {cI cZ cT : ClassId}

abbrev part (cI : ClassId) (x : Option (Nat × Nat × TT)) : va_W := match x with | none => [] | some y => wT cI y.1 y.2.1 y.2.2
abbrev adr (x : Option (Nat × Nat × TT)) : Option Nat := x.map (fun y => y.1)
abbrev twn (x : Option (Nat × Nat × TT)) : Option TT := x.map (fun y => y.2.2)
abbrev wSl (cI cT : ClassId) (sl : Nat) (x0 x1 : Option (Nat × Nat × TT)) : va_W := (wA cT sl (fun j => if j = 0 then adr x0 else adr x1)) ++ (part cI x0) ++ (part cI x1)
theorem p3_X (a b c : va_W) : (a ++ b ++ c).Perm ((b ++ c) ++ a) := by
  refine pmc (fun k h => ?_)
  simp only [h]
  omega
theorem p3_M (a b c : va_W) : (a ++ b ++ c).Perm ((a ++ b) ++ c) := List.Perm.refl _
end G_LW0
section G_LWa
variable {p : Program} {l : Launch} {e : Env} {s : State} {m : MethodId} {args : Array Value} {below : List Frame} {meth : Method} {c : Code} {D : va_G} {cI cZ cT : ClassId}
set_option maxHeartbeats 8000000 in
set_option maxRecDepth 100000 in
theorem lc_set {G : q_G} {bs L : Nat} {xs : Nat → Int32} (J : JT) (hst : St_set J) {Q : State → Prop} (C0 : q_At p s m args meth c code 4 ret RL) (hK : va_K D vwCl (q_tys cI cZ cT) s) (hA : ∀ q, s.heap.size ≤ q → (fun q : Nat => s.heap.size ≤ q) q) (hE : q_E G (fun q : Nat => s.heap.size ≤ q) s) (hX : va_X bs L xs s s.heap) (hbl : bs < s.heap.size) (hbA : ¬ (fun q : Nat => s.heap.size ≤ q) bs) (k : Nat) (hk512 : k < 512) (hi1 : vp_in (nI (4 * k + 1)) L) (hi2 : vp_in (nI (4 * k + 2)) L) (hi3 : vp_in (nI (4 * k + 3)) L) {cells slots : Nat} (hc : cells ≤ room_1.cells) (hc2 : slots ≤ room_1.slots) (w sl o a : Nat) (hs hst_ : Nat) (ta ca : Nat → Nat) (pd sg nm mo : Nat) (b : Nat → Nat) (x0 x1 : Option (Nat × Nat × TT)) (t : TT) (hh : HH) (pp : PP) (mm : MM) (hJ : J k t hh pp (twn x0) (twn x1) mm)
    (kk : ∀ (t : TT) (hh : HH) (pp : PP) (x0 x1 : Option (Nat × Nat × TT)) (mm : MM), J (k + 1) t hh pp (twn x0) (twn x1) mm → ∀ (H : Heap) (locs : List Loc) (ls : Array Slot), va_P D vwCl (((wX w o hs pd sl) ++ (wT cI o a t) ++ (wH cI cT hs hst_ ta ca hh) ++ (wPd cI pd sg nm pp)) ++ (wSl cI cT sl x0 x1) ++ (wM cI cZ mo b mm)) H → va_D (fun q : Nat => s.heap.size ≤ q) (((wX w o hs pd sl) ++ (wT cI o a t) ++ (wH cI cT hs hst_ ta ca hh) ++ (wPd cI pd sg nm pp)) ++ (wSl cI cT sl x0 x1) ++ (wM cI cZ mo b mm)) → va_S (fun q : Nat => s.heap.size ≤ q) s.heap H locs → lv_has ls 4 [(0, .ref bs), (1, .ref w), (2, .ref mo), (3, .int (nI (4 * k)))] → W p l e room_1 s m args below meth c H locs cells slots Q (F0 m 904 ls []))
    (H : Heap) (locs : List Loc) (ls : Array Slot) (hP : va_P D vwCl (((wX w o hs pd sl) ++ (wT cI o a t) ++ (wH cI cT hs hst_ ta ca hh) ++ (wPd cI pd sg nm pp)) ++ (wSl cI cT sl x0 x1) ++ (wM cI cZ mo b mm)) H) (hD : va_D (fun q : Nat => s.heap.size ≤ q) (((wX w o hs pd sl) ++ (wT cI o a t) ++ (wH cI cT hs hst_ ta ca hh) ++ (wPd cI pd sg nm pp)) ++ (wSl cI cT sl x0 x1) ++ (wM cI cZ mo b mm))) (hS : va_S (fun q : Nat => s.heap.size ≤ q) s.heap H locs) (hl : lv_has ls 4 [(0, .ref bs), (1, .ref w), (2, .ref mo), (3, .int (nI (4 * k)))]) : W p l e room_1 s m args below meth c H locs cells slots Q (F0 m 160 ls []) := by
  obtain ⟨hx, hb, hr0, hml, hown, hts, hlocks⟩ := id C0
  have hF : CallFix p m c code 4 s args BW RL := ⟨hx, hb, hml, hown, hts⟩
  obtain ⟨y1, ey1⟩ : ∃ y, y = xs (nI (4 * k + 1)).toNatClampNeg := ⟨_, rfl⟩
  obtain ⟨y2, ey2⟩ : ∃ y, y = xs (nI (4 * k + 2)).toNatClampNeg := ⟨_, rfl⟩
  obtain ⟨y3, ey3⟩ : ∃ y, y = xs (nI (4 * k + 3)).toNatClampNeg := ⟨_, rfl⟩
  obtain ⟨r, z, hr, hz, hv, hJ1⟩ := hst k t hh pp (twn x0) (twn x1) mm y1 y2 hk512 hJ
  refine lv_aload_n hx hb dL_law_160 rfl (lv_at hl 1 rfl) ?_
  refine lv_aload_n hx hb dL_law_161 rfl (lv_at hl 0 rfl) ?_
  refine lv_iload_n hx hb dL_law_162 rfl (lv_at hl 3 rfl) ?_
  refine lv_iconst (v := 1) hx hb dL_law_163 (by decide) ?_
  refine lv_iadd hx hb dL_law_164 ?_
  rw [show nI (4 * k) + 1 = nI (4 * k + 1) from nI_add _ _]
  refine va_sld hx hb hX hbl hbA hS hi1 dL_law_165 ?_
  rw [← ey1]
  refine lv_aload_n hx hb dL_law_166 rfl (lv_at hl 0 rfl) ?_
  refine lv_iload_n hx hb dL_law_167 rfl (lv_at hl 3 rfl) ?_
  refine lv_iconst (v := 2) hx hb dL_law_168 (by decide) ?_
  refine lv_iadd hx hb dL_law_169 ?_
  rw [show nI (4 * k) + 2 = nI (4 * k + 2) from nI_add _ _]
  refine va_sld hx hb hX hbl hbA hS hi2 dL_law_170 ?_
  rw [← ey2]
  refine x_MVp (As := [.int y1, .int y2]) (rest := []) (wr := (wSl cI cT sl x0 x1) ++ (wM cI cZ mo b mm)) (W1 := ((wX w o hs pd sl) ++ (wT cI o a r.2.1) ++ (wH cI cT hs hst_ ta ca r.2.2) ++ (wPd cI pd sg nm pp)) ++ (wSl cI cT sl x0 x1) ++ (wM cI cZ mo b mm)) hF (c_X3_set l D cI cZ cT G _ w sl o a t hs hst_ ta ca hh pd sg nm pp y1 y2 r hr) (cwV 2 hts (gqV mw_631 mw_632 mw_633 mw_51 mw_324) rfl rfl rfl hd_X3_set ⟨Nat.le_of_ble_eq_true rfl, Nat.le_of_ble_eq_true rfl⟩) hK hP hD hS hA q_E_bl (q_E_go hE hS (q_freep (p3_X ((wX w o hs pd sl) ++ (wT cI o a t) ++ (wH cI cT hs hst_ ta ca hh) ++ (wPd cI pd sg nm pp)) (wSl cI cT sl x0 x1) (wM cI cZ mo b mm)) hD hS hA)) (p3_X ((wX w o hs pd sl) ++ (wT cI o a t) ++ (wH cI cT hs hst_ ta ca hh) ++ (wPd cI pd sg nm pp)) (wSl cI cT sl x0 x1) (wM cI cZ mo b mm)) (p3_X ((wX w o hs pd sl) ++ (wT cI o a r.2.1) ++ (wH cI cT hs hst_ ta ca r.2.2) ++ (wPd cI pd sg nm pp)) (wSl cI cT sl x0 x1) (wM cI cZ mo b mm)).symm rfl rfl rfl hl.1 rfl (Nat.le_of_ble_eq_true rfl) dL_law_171 ⟨hc, hc2⟩ (fun H locs hP hD hS => ?_)
  refine lv_aload_n hx hb dL_law_174 rfl (lv_at hl 2 rfl) ?_
  refine lv_aload_n hx hb dL_law_175 rfl (lv_at hl 0 rfl) ?_
  refine lv_iload_n hx hb dL_law_176 rfl (lv_at hl 3 rfl) ?_
  refine lv_iconst (v := 1) hx hb dL_law_177 (by decide) ?_
  refine lv_iadd hx hb dL_law_178 ?_
  rw [show nI (4 * k) + 1 = nI (4 * k + 1) from nI_add _ _]
  refine va_sld hx hb hX hbl hbA hS hi1 dL_law_179 ?_
  rw [← ey1]
  refine lv_aload_n hx hb dL_law_180 rfl (lv_at hl 0 rfl) ?_
  refine lv_iload_n hx hb dL_law_181 rfl (lv_at hl 3 rfl) ?_
  refine lv_iconst (v := 2) hx hb dL_law_182 (by decide) ?_
  refine lv_iadd hx hb dL_law_183 ?_
  rw [show nI (4 * k) + 2 = nI (4 * k + 2) from nI_add _ _]
  refine va_sld hx hb hX hbl hbA hS hi2 dL_law_184 ?_
  rw [← ey2]
  refine x_MVp (As := [.int y1, .int y2]) (rest := [.int r.1]) (wr := ((wX w o hs pd sl) ++ (wT cI o a r.2.1) ++ (wH cI cT hs hst_ ta ca r.2.2) ++ (wPd cI pd sg nm pp)) ++ (wSl cI cT sl x0 x1)) (W1 := ((wX w o hs pd sl) ++ (wT cI o a r.2.1) ++ (wH cI cT hs hst_ ta ca r.2.2) ++ (wPd cI pd sg nm pp)) ++ (wSl cI cT sl x0 x1) ++ (wM cI cZ mo b z.2)) hF (c_X4_set l D cI cZ cT _ mo b mm y1 y2 z hz) (cwV 2 hts (gqV mw_634 mw_635 mw_636 mw_428 mw_515) rfl rfl rfl hd_X4_set ⟨Nat.le_of_ble_eq_true rfl, Nat.le_of_ble_eq_true rfl⟩) hK hP hD hS hA q_T_bl (fun _ _ _ => (trivial : True)) (List.Perm.refl _) (List.Perm.refl _) rfl rfl rfl hl.1 rfl (Nat.le_of_ble_eq_true rfl) dL_law_185 ⟨hc, hc2⟩ (fun H locs hP hD hS => ?_)
  refine lv_icmp_eq (tgt := 904) hx hb dL_law_188 (by decide) (fun c9 => ?_) (fun c9 => ?_)
  · exact kk _ _ _ _ _ _ hJ1 H locs ls hP hD hS hl
  · exact absurd hv c9
set_option maxHeartbeats 8000000 in
set_option maxRecDepth 100000 in
theorem lc_person {G : q_G} {bs L : Nat} {xs : Nat → Int32} (J : JT) (hst : St_person J) {Q : State → Prop} (C0 : q_At p s m args meth c code 4 ret RL) (hK : va_K D vwCl (q_tys cI cZ cT) s) (hA : ∀ q, s.heap.size ≤ q → (fun q : Nat => s.heap.size ≤ q) q) (hE : q_E G (fun q : Nat => s.heap.size ≤ q) s) (hX : va_X bs L xs s s.heap) (hbl : bs < s.heap.size) (hbA : ¬ (fun q : Nat => s.heap.size ≤ q) bs) (k : Nat) (hk512 : k < 512) (hi1 : vp_in (nI (4 * k + 1)) L) (hi2 : vp_in (nI (4 * k + 2)) L) (hi3 : vp_in (nI (4 * k + 3)) L) {cells slots : Nat} (hc : cells ≤ room_1.cells) (hc2 : slots ≤ room_1.slots) (w sl o a : Nat) (hs hst_ : Nat) (ta ca : Nat → Nat) (pd sg nm mo : Nat) (b : Nat → Nat) (x0 x1 : Option (Nat × Nat × TT)) (t : TT) (hh : HH) (pp : PP) (mm : MM) (hJ : J k t hh pp (twn x0) (twn x1) mm)
    (kk : ∀ (t : TT) (hh : HH) (pp : PP) (x0 x1 : Option (Nat × Nat × TT)) (mm : MM), J (k + 1) t hh pp (twn x0) (twn x1) mm → ∀ (H : Heap) (locs : List Loc) (ls : Array Slot), va_P D vwCl (((wX w o hs pd sl) ++ (wT cI o a t) ++ (wH cI cT hs hst_ ta ca hh) ++ (wPd cI pd sg nm pp)) ++ (wSl cI cT sl x0 x1) ++ (wM cI cZ mo b mm)) H → va_D (fun q : Nat => s.heap.size ≤ q) (((wX w o hs pd sl) ++ (wT cI o a t) ++ (wH cI cT hs hst_ ta ca hh) ++ (wPd cI pd sg nm pp)) ++ (wSl cI cT sl x0 x1) ++ (wM cI cZ mo b mm)) → va_S (fun q : Nat => s.heap.size ≤ q) s.heap H locs → lv_has ls 4 [(0, .ref bs), (1, .ref w), (2, .ref mo), (3, .int (nI (4 * k)))] → W p l e room_1 s m args below meth c H locs cells slots Q (F0 m 904 ls []))
    (H : Heap) (locs : List Loc) (ls : Array Slot) (hP : va_P D vwCl (((wX w o hs pd sl) ++ (wT cI o a t) ++ (wH cI cT hs hst_ ta ca hh) ++ (wPd cI pd sg nm pp)) ++ (wSl cI cT sl x0 x1) ++ (wM cI cZ mo b mm)) H) (hD : va_D (fun q : Nat => s.heap.size ≤ q) (((wX w o hs pd sl) ++ (wT cI o a t) ++ (wH cI cT hs hst_ ta ca hh) ++ (wPd cI pd sg nm pp)) ++ (wSl cI cT sl x0 x1) ++ (wM cI cZ mo b mm))) (hS : va_S (fun q : Nat => s.heap.size ≤ q) s.heap H locs) (hl : lv_has ls 4 [(0, .ref bs), (1, .ref w), (2, .ref mo), (3, .int (nI (4 * k)))]) : W p l e room_1 s m args below meth c H locs cells slots Q (F0 m 193 ls []) := by
  obtain ⟨hx, hb, hr0, hml, hown, hts, hlocks⟩ := id C0
  have hF : CallFix p m c code 4 s args BW RL := ⟨hx, hb, hml, hown, hts⟩
  obtain ⟨y1, ey1⟩ : ∃ y, y = xs (nI (4 * k + 1)).toNatClampNeg := ⟨_, rfl⟩
  obtain ⟨y2, ey2⟩ : ∃ y, y = xs (nI (4 * k + 2)).toNatClampNeg := ⟨_, rfl⟩
  obtain ⟨y3, ey3⟩ : ∃ y, y = xs (nI (4 * k + 3)).toNatClampNeg := ⟨_, rfl⟩
  obtain ⟨r, z, hr, hz, hv, hJ1⟩ := hst k t hh pp (twn x0) (twn x1) mm y1 y2 hk512 hJ
  refine lv_aload_n hx hb dL_law_193 rfl (lv_at hl 1 rfl) ?_
  refine lv_aload_n hx hb dL_law_194 rfl (lv_at hl 0 rfl) ?_
  refine lv_iload_n hx hb dL_law_195 rfl (lv_at hl 3 rfl) ?_
  refine lv_iconst (v := 1) hx hb dL_law_196 (by decide) ?_
  refine lv_iadd hx hb dL_law_197 ?_
  rw [show nI (4 * k) + 1 = nI (4 * k + 1) from nI_add _ _]
  refine va_sld hx hb hX hbl hbA hS hi1 dL_law_198 ?_
  rw [← ey1]
  refine lv_aload_n hx hb dL_law_199 rfl (lv_at hl 0 rfl) ?_
  refine lv_iload_n hx hb dL_law_200 rfl (lv_at hl 3 rfl) ?_
  refine lv_iconst (v := 2) hx hb dL_law_201 (by decide) ?_
  refine lv_iadd hx hb dL_law_202 ?_
  rw [show nI (4 * k) + 2 = nI (4 * k + 2) from nI_add _ _]
  refine va_sld hx hb hX hbl hbA hS hi2 dL_law_203 ?_
  rw [← ey2]
  refine x_MVp (As := [.int y1, .int y2]) (rest := []) (wr := (wSl cI cT sl x0 x1) ++ (wM cI cZ mo b mm)) (W1 := ((wX w o hs pd sl) ++ (wT cI o a r.2.1) ++ (wH cI cT hs hst_ ta ca r.2.2) ++ (wPd cI pd sg nm pp)) ++ (wSl cI cT sl x0 x1) ++ (wM cI cZ mo b mm)) hF (c_X3_person l D cI cZ cT G _ w sl o a t hs hst_ ta ca hh pd sg nm pp y1 y2 r hr) (cwV 2 hts (gqV mw_637 mw_638 mw_639 mw_51 mw_327) rfl rfl rfl hd_X3_person ⟨Nat.le_of_ble_eq_true rfl, Nat.le_of_ble_eq_true rfl⟩) hK hP hD hS hA q_E_bl (q_E_go hE hS (q_freep (p3_X ((wX w o hs pd sl) ++ (wT cI o a t) ++ (wH cI cT hs hst_ ta ca hh) ++ (wPd cI pd sg nm pp)) (wSl cI cT sl x0 x1) (wM cI cZ mo b mm)) hD hS hA)) (p3_X ((wX w o hs pd sl) ++ (wT cI o a t) ++ (wH cI cT hs hst_ ta ca hh) ++ (wPd cI pd sg nm pp)) (wSl cI cT sl x0 x1) (wM cI cZ mo b mm)) (p3_X ((wX w o hs pd sl) ++ (wT cI o a r.2.1) ++ (wH cI cT hs hst_ ta ca r.2.2) ++ (wPd cI pd sg nm pp)) (wSl cI cT sl x0 x1) (wM cI cZ mo b mm)).symm rfl rfl rfl hl.1 rfl (Nat.le_of_ble_eq_true rfl) dL_law_204 ⟨hc, hc2⟩ (fun H locs hP hD hS => ?_)
  refine lv_aload_n hx hb dL_law_207 rfl (lv_at hl 2 rfl) ?_
  refine lv_aload_n hx hb dL_law_208 rfl (lv_at hl 0 rfl) ?_
  refine lv_iload_n hx hb dL_law_209 rfl (lv_at hl 3 rfl) ?_
  refine lv_iconst (v := 1) hx hb dL_law_210 (by decide) ?_
  refine lv_iadd hx hb dL_law_211 ?_
  rw [show nI (4 * k) + 1 = nI (4 * k + 1) from nI_add _ _]
  refine va_sld hx hb hX hbl hbA hS hi1 dL_law_212 ?_
  rw [← ey1]
  refine lv_aload_n hx hb dL_law_213 rfl (lv_at hl 0 rfl) ?_
  refine lv_iload_n hx hb dL_law_214 rfl (lv_at hl 3 rfl) ?_
  refine lv_iconst (v := 2) hx hb dL_law_215 (by decide) ?_
  refine lv_iadd hx hb dL_law_216 ?_
  rw [show nI (4 * k) + 2 = nI (4 * k + 2) from nI_add _ _]
  refine va_sld hx hb hX hbl hbA hS hi2 dL_law_217 ?_
  rw [← ey2]
  refine x_MVp (As := [.int y1, .int y2]) (rest := [.int r.1]) (wr := ((wX w o hs pd sl) ++ (wT cI o a r.2.1) ++ (wH cI cT hs hst_ ta ca r.2.2) ++ (wPd cI pd sg nm pp)) ++ (wSl cI cT sl x0 x1)) (W1 := ((wX w o hs pd sl) ++ (wT cI o a r.2.1) ++ (wH cI cT hs hst_ ta ca r.2.2) ++ (wPd cI pd sg nm pp)) ++ (wSl cI cT sl x0 x1) ++ (wM cI cZ mo b z.2)) hF (c_X4_person l D cI cZ cT _ mo b mm y1 y2 z hz) (cwV 2 hts (gqV mw_640 mw_641 mw_642 mw_428 mw_522) rfl rfl rfl hd_X4_person ⟨Nat.le_of_ble_eq_true rfl, Nat.le_of_ble_eq_true rfl⟩) hK hP hD hS hA q_T_bl (fun _ _ _ => (trivial : True)) (List.Perm.refl _) (List.Perm.refl _) rfl rfl rfl hl.1 rfl (Nat.le_of_ble_eq_true rfl) dL_law_218 ⟨hc, hc2⟩ (fun H locs hP hD hS => ?_)
  refine lv_icmp_eq (tgt := 904) hx hb dL_law_221 (by decide) (fun c9 => ?_) (fun c9 => ?_)
  · exact kk _ _ _ _ _ _ hJ1 H locs ls hP hD hS hl
  · exact absurd hv c9
end G_LWa
section G_LWb
variable {p : Program} {l : Launch} {e : Env} {s : State} {m : MethodId} {args : Array Value} {below : List Frame} {meth : Method} {c : Code} {D : va_G} {cI cZ cT : ClassId}
set_option maxHeartbeats 8000000 in
set_option maxRecDepth 100000 in
theorem lc_second {G : q_G} {bs L : Nat} {xs : Nat → Int32} (J : JT) (hst : St_second J) {Q : State → Prop} (C0 : q_At p s m args meth c code 4 ret RL) (hK : va_K D vwCl (q_tys cI cZ cT) s) (hA : ∀ q, s.heap.size ≤ q → (fun q : Nat => s.heap.size ≤ q) q) (hE : q_E G (fun q : Nat => s.heap.size ≤ q) s) (hX : va_X bs L xs s s.heap) (hbl : bs < s.heap.size) (hbA : ¬ (fun q : Nat => s.heap.size ≤ q) bs) (k : Nat) (hk512 : k < 512) (hi1 : vp_in (nI (4 * k + 1)) L) (hi2 : vp_in (nI (4 * k + 2)) L) (hi3 : vp_in (nI (4 * k + 3)) L) {cells slots : Nat} (hc : cells ≤ room_1.cells) (hc2 : slots ≤ room_1.slots) (w sl o a : Nat) (hs hst_ : Nat) (ta ca : Nat → Nat) (pd sg nm mo : Nat) (b : Nat → Nat) (x0 x1 : Option (Nat × Nat × TT)) (t : TT) (hh : HH) (pp : PP) (mm : MM) (hJ : J k t hh pp (twn x0) (twn x1) mm)
    (kk : ∀ (t : TT) (hh : HH) (pp : PP) (x0 x1 : Option (Nat × Nat × TT)) (mm : MM), J (k + 1) t hh pp (twn x0) (twn x1) mm → ∀ (H : Heap) (locs : List Loc) (ls : Array Slot), va_P D vwCl (((wX w o hs pd sl) ++ (wT cI o a t) ++ (wH cI cT hs hst_ ta ca hh) ++ (wPd cI pd sg nm pp)) ++ (wSl cI cT sl x0 x1) ++ (wM cI cZ mo b mm)) H → va_D (fun q : Nat => s.heap.size ≤ q) (((wX w o hs pd sl) ++ (wT cI o a t) ++ (wH cI cT hs hst_ ta ca hh) ++ (wPd cI pd sg nm pp)) ++ (wSl cI cT sl x0 x1) ++ (wM cI cZ mo b mm)) → va_S (fun q : Nat => s.heap.size ≤ q) s.heap H locs → lv_has ls 4 [(0, .ref bs), (1, .ref w), (2, .ref mo), (3, .int (nI (4 * k)))] → W p l e room_1 s m args below meth c H locs cells slots Q (F0 m 904 ls []))
    (H : Heap) (locs : List Loc) (ls : Array Slot) (hP : va_P D vwCl (((wX w o hs pd sl) ++ (wT cI o a t) ++ (wH cI cT hs hst_ ta ca hh) ++ (wPd cI pd sg nm pp)) ++ (wSl cI cT sl x0 x1) ++ (wM cI cZ mo b mm)) H) (hD : va_D (fun q : Nat => s.heap.size ≤ q) (((wX w o hs pd sl) ++ (wT cI o a t) ++ (wH cI cT hs hst_ ta ca hh) ++ (wPd cI pd sg nm pp)) ++ (wSl cI cT sl x0 x1) ++ (wM cI cZ mo b mm))) (hS : va_S (fun q : Nat => s.heap.size ≤ q) s.heap H locs) (hl : lv_has ls 4 [(0, .ref bs), (1, .ref w), (2, .ref mo), (3, .int (nI (4 * k)))]) : W p l e room_1 s m args below meth c H locs cells slots Q (F0 m 226 ls []) := by
  obtain ⟨hx, hb, hr0, hml, hown, hts, hlocks⟩ := id C0
  have hF : CallFix p m c code 4 s args BW RL := ⟨hx, hb, hml, hown, hts⟩
  obtain ⟨y1, ey1⟩ : ∃ y, y = xs (nI (4 * k + 1)).toNatClampNeg := ⟨_, rfl⟩
  obtain ⟨y2, ey2⟩ : ∃ y, y = xs (nI (4 * k + 2)).toNatClampNeg := ⟨_, rfl⟩
  obtain ⟨y3, ey3⟩ : ∃ y, y = xs (nI (4 * k + 3)).toNatClampNeg := ⟨_, rfl⟩
  obtain ⟨r, z, hr, hz, hv, hJ1⟩ := hst k t hh pp (twn x0) (twn x1) mm y1 y2 hk512 hJ
  refine lv_aload_n hx hb dL_law_226 rfl (lv_at hl 1 rfl) ?_
  refine lv_aload_n hx hb dL_law_227 rfl (lv_at hl 0 rfl) ?_
  refine lv_iload_n hx hb dL_law_228 rfl (lv_at hl 3 rfl) ?_
  refine lv_iconst (v := 1) hx hb dL_law_229 (by decide) ?_
  refine lv_iadd hx hb dL_law_230 ?_
  rw [show nI (4 * k) + 1 = nI (4 * k + 1) from nI_add _ _]
  refine va_sld hx hb hX hbl hbA hS hi1 dL_law_231 ?_
  rw [← ey1]
  refine lv_aload_n hx hb dL_law_232 rfl (lv_at hl 0 rfl) ?_
  refine lv_iload_n hx hb dL_law_233 rfl (lv_at hl 3 rfl) ?_
  refine lv_iconst (v := 2) hx hb dL_law_234 (by decide) ?_
  refine lv_iadd hx hb dL_law_235 ?_
  rw [show nI (4 * k) + 2 = nI (4 * k + 2) from nI_add _ _]
  refine va_sld hx hb hX hbl hbA hS hi2 dL_law_236 ?_
  rw [← ey2]
  refine x_MVp (As := [.int y1, .int y2]) (rest := []) (wr := (wSl cI cT sl x0 x1) ++ (wM cI cZ mo b mm)) (W1 := ((wX w o hs pd sl) ++ (wT cI o a r.2.1) ++ (wH cI cT hs hst_ ta ca r.2.2) ++ (wPd cI pd sg nm pp)) ++ (wSl cI cT sl x0 x1) ++ (wM cI cZ mo b mm)) hF (c_X3_second l D cI cZ cT G _ w sl o a t hs hst_ ta ca hh pd sg nm pp y1 y2 r hr) (cwV 2 hts (gqV mw_643 mw_644 mw_645 mw_51 mw_330) rfl rfl rfl hd_X3_second ⟨Nat.le_of_ble_eq_true rfl, Nat.le_of_ble_eq_true rfl⟩) hK hP hD hS hA q_E_bl (q_E_go hE hS (q_freep (p3_X ((wX w o hs pd sl) ++ (wT cI o a t) ++ (wH cI cT hs hst_ ta ca hh) ++ (wPd cI pd sg nm pp)) (wSl cI cT sl x0 x1) (wM cI cZ mo b mm)) hD hS hA)) (p3_X ((wX w o hs pd sl) ++ (wT cI o a t) ++ (wH cI cT hs hst_ ta ca hh) ++ (wPd cI pd sg nm pp)) (wSl cI cT sl x0 x1) (wM cI cZ mo b mm)) (p3_X ((wX w o hs pd sl) ++ (wT cI o a r.2.1) ++ (wH cI cT hs hst_ ta ca r.2.2) ++ (wPd cI pd sg nm pp)) (wSl cI cT sl x0 x1) (wM cI cZ mo b mm)).symm rfl rfl rfl hl.1 rfl (Nat.le_of_ble_eq_true rfl) dL_law_237 ⟨hc, hc2⟩ (fun H locs hP hD hS => ?_)
  refine lv_aload_n hx hb dL_law_240 rfl (lv_at hl 2 rfl) ?_
  refine lv_aload_n hx hb dL_law_241 rfl (lv_at hl 0 rfl) ?_
  refine lv_iload_n hx hb dL_law_242 rfl (lv_at hl 3 rfl) ?_
  refine lv_iconst (v := 1) hx hb dL_law_243 (by decide) ?_
  refine lv_iadd hx hb dL_law_244 ?_
  rw [show nI (4 * k) + 1 = nI (4 * k + 1) from nI_add _ _]
  refine va_sld hx hb hX hbl hbA hS hi1 dL_law_245 ?_
  rw [← ey1]
  refine lv_aload_n hx hb dL_law_246 rfl (lv_at hl 0 rfl) ?_
  refine lv_iload_n hx hb dL_law_247 rfl (lv_at hl 3 rfl) ?_
  refine lv_iconst (v := 2) hx hb dL_law_248 (by decide) ?_
  refine lv_iadd hx hb dL_law_249 ?_
  rw [show nI (4 * k) + 2 = nI (4 * k + 2) from nI_add _ _]
  refine va_sld hx hb hX hbl hbA hS hi2 dL_law_250 ?_
  rw [← ey2]
  refine x_MVp (As := [.int y1, .int y2]) (rest := [.int r.1]) (wr := ((wX w o hs pd sl) ++ (wT cI o a r.2.1) ++ (wH cI cT hs hst_ ta ca r.2.2) ++ (wPd cI pd sg nm pp)) ++ (wSl cI cT sl x0 x1)) (W1 := ((wX w o hs pd sl) ++ (wT cI o a r.2.1) ++ (wH cI cT hs hst_ ta ca r.2.2) ++ (wPd cI pd sg nm pp)) ++ (wSl cI cT sl x0 x1) ++ (wM cI cZ mo b z.2)) hF (c_X4_second l D cI cZ cT _ mo b mm y1 y2 z hz) (cwV 2 hts (gqV mw_646 mw_647 mw_648 mw_428 mw_529) rfl rfl rfl hd_X4_second ⟨Nat.le_of_ble_eq_true rfl, Nat.le_of_ble_eq_true rfl⟩) hK hP hD hS hA q_T_bl (fun _ _ _ => (trivial : True)) (List.Perm.refl _) (List.Perm.refl _) rfl rfl rfl hl.1 rfl (Nat.le_of_ble_eq_true rfl) dL_law_251 ⟨hc, hc2⟩ (fun H locs hP hD hS => ?_)
  refine lv_icmp_eq (tgt := 904) hx hb dL_law_254 (by decide) (fun c9 => ?_) (fun c9 => ?_)
  · exact kk _ _ _ _ _ _ hJ1 H locs ls hP hD hS hl
  · exact absurd hv c9
set_option maxHeartbeats 8000000 in
set_option maxRecDepth 100000 in
theorem lc_allow {G : q_G} {bs L : Nat} {xs : Nat → Int32} (J : JT) (hst : St_allow J) {Q : State → Prop} (C0 : q_At p s m args meth c code 4 ret RL) (hK : va_K D vwCl (q_tys cI cZ cT) s) (hA : ∀ q, s.heap.size ≤ q → (fun q : Nat => s.heap.size ≤ q) q) (hE : q_E G (fun q : Nat => s.heap.size ≤ q) s) (hX : va_X bs L xs s s.heap) (hbl : bs < s.heap.size) (hbA : ¬ (fun q : Nat => s.heap.size ≤ q) bs) (k : Nat) (hk512 : k < 512) (hi1 : vp_in (nI (4 * k + 1)) L) (hi2 : vp_in (nI (4 * k + 2)) L) (hi3 : vp_in (nI (4 * k + 3)) L) {cells slots : Nat} (hc : cells ≤ room_1.cells) (hc2 : slots ≤ room_1.slots) (w sl o a : Nat) (hs hst_ : Nat) (ta ca : Nat → Nat) (pd sg nm mo : Nat) (b : Nat → Nat) (x0 x1 : Option (Nat × Nat × TT)) (t : TT) (hh : HH) (pp : PP) (mm : MM) (hJ : J k t hh pp (twn x0) (twn x1) mm)
    (kk : ∀ (t : TT) (hh : HH) (pp : PP) (x0 x1 : Option (Nat × Nat × TT)) (mm : MM), J (k + 1) t hh pp (twn x0) (twn x1) mm → ∀ (H : Heap) (locs : List Loc) (ls : Array Slot), va_P D vwCl (((wX w o hs pd sl) ++ (wT cI o a t) ++ (wH cI cT hs hst_ ta ca hh) ++ (wPd cI pd sg nm pp)) ++ (wSl cI cT sl x0 x1) ++ (wM cI cZ mo b mm)) H → va_D (fun q : Nat => s.heap.size ≤ q) (((wX w o hs pd sl) ++ (wT cI o a t) ++ (wH cI cT hs hst_ ta ca hh) ++ (wPd cI pd sg nm pp)) ++ (wSl cI cT sl x0 x1) ++ (wM cI cZ mo b mm)) → va_S (fun q : Nat => s.heap.size ≤ q) s.heap H locs → lv_has ls 4 [(0, .ref bs), (1, .ref w), (2, .ref mo), (3, .int (nI (4 * k)))] → W p l e room_1 s m args below meth c H locs cells slots Q (F0 m 904 ls []))
    (H : Heap) (locs : List Loc) (ls : Array Slot) (hP : va_P D vwCl (((wX w o hs pd sl) ++ (wT cI o a t) ++ (wH cI cT hs hst_ ta ca hh) ++ (wPd cI pd sg nm pp)) ++ (wSl cI cT sl x0 x1) ++ (wM cI cZ mo b mm)) H) (hD : va_D (fun q : Nat => s.heap.size ≤ q) (((wX w o hs pd sl) ++ (wT cI o a t) ++ (wH cI cT hs hst_ ta ca hh) ++ (wPd cI pd sg nm pp)) ++ (wSl cI cT sl x0 x1) ++ (wM cI cZ mo b mm))) (hS : va_S (fun q : Nat => s.heap.size ≤ q) s.heap H locs) (hl : lv_has ls 4 [(0, .ref bs), (1, .ref w), (2, .ref mo), (3, .int (nI (4 * k)))]) : W p l e room_1 s m args below meth c H locs cells slots Q (F0 m 259 ls []) := by
  obtain ⟨hx, hb, hr0, hml, hown, hts, hlocks⟩ := id C0
  have hF : CallFix p m c code 4 s args BW RL := ⟨hx, hb, hml, hown, hts⟩
  obtain ⟨y1, ey1⟩ : ∃ y, y = xs (nI (4 * k + 1)).toNatClampNeg := ⟨_, rfl⟩
  obtain ⟨y2, ey2⟩ : ∃ y, y = xs (nI (4 * k + 2)).toNatClampNeg := ⟨_, rfl⟩
  obtain ⟨y3, ey3⟩ : ∃ y, y = xs (nI (4 * k + 3)).toNatClampNeg := ⟨_, rfl⟩
  obtain ⟨r, z, hr, hz, hv, hJ1⟩ := hst k t hh pp (twn x0) (twn x1) mm y1 hk512 hJ
  refine lv_aload_n hx hb dL_law_259 rfl (lv_at hl 1 rfl) ?_
  refine lv_aload_n hx hb dL_law_260 rfl (lv_at hl 0 rfl) ?_
  refine lv_iload_n hx hb dL_law_261 rfl (lv_at hl 3 rfl) ?_
  refine lv_iconst (v := 1) hx hb dL_law_262 (by decide) ?_
  refine lv_iadd hx hb dL_law_263 ?_
  rw [show nI (4 * k) + 1 = nI (4 * k + 1) from nI_add _ _]
  refine va_sld hx hb hX hbl hbA hS hi1 dL_law_264 ?_
  rw [← ey1]
  refine x_MVp (As := [.int y1]) (rest := []) (wr := (wSl cI cT sl x0 x1) ++ (wM cI cZ mo b mm)) (W1 := ((wX w o hs pd sl) ++ (wT cI o a r.2.1) ++ (wH cI cT hs hst_ ta ca r.2.2) ++ (wPd cI pd sg nm pp)) ++ (wSl cI cT sl x0 x1) ++ (wM cI cZ mo b mm)) hF (c_X3_allow l D cI cZ cT G _ w sl o a t hs hst_ ta ca hh pd sg nm pp y1 r hr) (cwV 1 hts (gqV mw_649 mw_650 mw_651 mw_51 mw_333) rfl rfl rfl hd_X3_allow ⟨Nat.le_of_ble_eq_true rfl, Nat.le_of_ble_eq_true rfl⟩) hK hP hD hS hA q_E_bl (q_E_go hE hS (q_freep (p3_X ((wX w o hs pd sl) ++ (wT cI o a t) ++ (wH cI cT hs hst_ ta ca hh) ++ (wPd cI pd sg nm pp)) (wSl cI cT sl x0 x1) (wM cI cZ mo b mm)) hD hS hA)) (p3_X ((wX w o hs pd sl) ++ (wT cI o a t) ++ (wH cI cT hs hst_ ta ca hh) ++ (wPd cI pd sg nm pp)) (wSl cI cT sl x0 x1) (wM cI cZ mo b mm)) (p3_X ((wX w o hs pd sl) ++ (wT cI o a r.2.1) ++ (wH cI cT hs hst_ ta ca r.2.2) ++ (wPd cI pd sg nm pp)) (wSl cI cT sl x0 x1) (wM cI cZ mo b mm)).symm rfl rfl rfl hl.1 rfl (Nat.le_of_ble_eq_true rfl) dL_law_265 ⟨hc, hc2⟩ (fun H locs hP hD hS => ?_)
  refine lv_aload_n hx hb dL_law_268 rfl (lv_at hl 2 rfl) ?_
  refine lv_aload_n hx hb dL_law_269 rfl (lv_at hl 0 rfl) ?_
  refine lv_iload_n hx hb dL_law_270 rfl (lv_at hl 3 rfl) ?_
  refine lv_iconst (v := 1) hx hb dL_law_271 (by decide) ?_
  refine lv_iadd hx hb dL_law_272 ?_
  rw [show nI (4 * k) + 1 = nI (4 * k + 1) from nI_add _ _]
  refine va_sld hx hb hX hbl hbA hS hi1 dL_law_273 ?_
  rw [← ey1]
  refine x_MVp (As := [.int y1]) (rest := [.int r.1]) (wr := ((wX w o hs pd sl) ++ (wT cI o a r.2.1) ++ (wH cI cT hs hst_ ta ca r.2.2) ++ (wPd cI pd sg nm pp)) ++ (wSl cI cT sl x0 x1)) (W1 := ((wX w o hs pd sl) ++ (wT cI o a r.2.1) ++ (wH cI cT hs hst_ ta ca r.2.2) ++ (wPd cI pd sg nm pp)) ++ (wSl cI cT sl x0 x1) ++ (wM cI cZ mo b z.2)) hF (c_X4_allow l D cI cZ cT _ mo b mm y1 z hz) (cwV 1 hts (gqV mw_652 mw_653 mw_654 mw_428 mw_530) rfl rfl rfl hd_X4_allow ⟨Nat.le_of_ble_eq_true rfl, Nat.le_of_ble_eq_true rfl⟩) hK hP hD hS hA q_T_bl (fun _ _ _ => (trivial : True)) (List.Perm.refl _) (List.Perm.refl _) rfl rfl rfl hl.1 rfl (Nat.le_of_ble_eq_true rfl) dL_law_274 ⟨hc, hc2⟩ (fun H locs hP hD hS => ?_)
  refine lv_icmp_eq (tgt := 904) hx hb dL_law_277 (by decide) (fun c9 => ?_) (fun c9 => ?_)
  · exact kk _ _ _ _ _ _ hJ1 H locs ls hP hD hS hl
  · exact absurd hv c9
set_option maxHeartbeats 8000000 in
set_option maxRecDepth 100000 in
theorem lc_insult {G : q_G} {bs L : Nat} {xs : Nat → Int32} (J : JT) (hst : St_insult J) {Q : State → Prop} (C0 : q_At p s m args meth c code 4 ret RL) (hK : va_K D vwCl (q_tys cI cZ cT) s) (hA : ∀ q, s.heap.size ≤ q → (fun q : Nat => s.heap.size ≤ q) q) (hE : q_E G (fun q : Nat => s.heap.size ≤ q) s) (hX : va_X bs L xs s s.heap) (hbl : bs < s.heap.size) (hbA : ¬ (fun q : Nat => s.heap.size ≤ q) bs) (k : Nat) (hk512 : k < 512) (hi1 : vp_in (nI (4 * k + 1)) L) (hi2 : vp_in (nI (4 * k + 2)) L) (hi3 : vp_in (nI (4 * k + 3)) L) {cells slots : Nat} (hc : cells ≤ room_1.cells) (hc2 : slots ≤ room_1.slots) (w sl o a : Nat) (hs hst_ : Nat) (ta ca : Nat → Nat) (pd sg nm mo : Nat) (b : Nat → Nat) (x0 x1 : Option (Nat × Nat × TT)) (t : TT) (hh : HH) (pp : PP) (mm : MM) (hJ : J k t hh pp (twn x0) (twn x1) mm)
    (kk : ∀ (t : TT) (hh : HH) (pp : PP) (x0 x1 : Option (Nat × Nat × TT)) (mm : MM), J (k + 1) t hh pp (twn x0) (twn x1) mm → ∀ (H : Heap) (locs : List Loc) (ls : Array Slot), va_P D vwCl (((wX w o hs pd sl) ++ (wT cI o a t) ++ (wH cI cT hs hst_ ta ca hh) ++ (wPd cI pd sg nm pp)) ++ (wSl cI cT sl x0 x1) ++ (wM cI cZ mo b mm)) H → va_D (fun q : Nat => s.heap.size ≤ q) (((wX w o hs pd sl) ++ (wT cI o a t) ++ (wH cI cT hs hst_ ta ca hh) ++ (wPd cI pd sg nm pp)) ++ (wSl cI cT sl x0 x1) ++ (wM cI cZ mo b mm)) → va_S (fun q : Nat => s.heap.size ≤ q) s.heap H locs → lv_has ls 4 [(0, .ref bs), (1, .ref w), (2, .ref mo), (3, .int (nI (4 * k)))] → W p l e room_1 s m args below meth c H locs cells slots Q (F0 m 904 ls []))
    (H : Heap) (locs : List Loc) (ls : Array Slot) (hP : va_P D vwCl (((wX w o hs pd sl) ++ (wT cI o a t) ++ (wH cI cT hs hst_ ta ca hh) ++ (wPd cI pd sg nm pp)) ++ (wSl cI cT sl x0 x1) ++ (wM cI cZ mo b mm)) H) (hD : va_D (fun q : Nat => s.heap.size ≤ q) (((wX w o hs pd sl) ++ (wT cI o a t) ++ (wH cI cT hs hst_ ta ca hh) ++ (wPd cI pd sg nm pp)) ++ (wSl cI cT sl x0 x1) ++ (wM cI cZ mo b mm))) (hS : va_S (fun q : Nat => s.heap.size ≤ q) s.heap H locs) (hl : lv_has ls 4 [(0, .ref bs), (1, .ref w), (2, .ref mo), (3, .int (nI (4 * k)))]) : W p l e room_1 s m args below meth c H locs cells slots Q (F0 m 282 ls []) := by
  obtain ⟨hx, hb, hr0, hml, hown, hts, hlocks⟩ := id C0
  have hF : CallFix p m c code 4 s args BW RL := ⟨hx, hb, hml, hown, hts⟩
  obtain ⟨y1, ey1⟩ : ∃ y, y = xs (nI (4 * k + 1)).toNatClampNeg := ⟨_, rfl⟩
  obtain ⟨y2, ey2⟩ : ∃ y, y = xs (nI (4 * k + 2)).toNatClampNeg := ⟨_, rfl⟩
  obtain ⟨y3, ey3⟩ : ∃ y, y = xs (nI (4 * k + 3)).toNatClampNeg := ⟨_, rfl⟩
  obtain ⟨r, z, hr, hz, hv, hJ1⟩ := hst k t hh pp (twn x0) (twn x1) mm y1 y2 y3 hk512 hJ
  refine lv_aload_n hx hb dL_law_282 rfl (lv_at hl 1 rfl) ?_
  refine lv_aload_n hx hb dL_law_283 rfl (lv_at hl 0 rfl) ?_
  refine lv_iload_n hx hb dL_law_284 rfl (lv_at hl 3 rfl) ?_
  refine lv_iconst (v := 1) hx hb dL_law_285 (by decide) ?_
  refine lv_iadd hx hb dL_law_286 ?_
  rw [show nI (4 * k) + 1 = nI (4 * k + 1) from nI_add _ _]
  refine va_sld hx hb hX hbl hbA hS hi1 dL_law_287 ?_
  rw [← ey1]
  refine lv_aload_n hx hb dL_law_288 rfl (lv_at hl 0 rfl) ?_
  refine lv_iload_n hx hb dL_law_289 rfl (lv_at hl 3 rfl) ?_
  refine lv_iconst (v := 2) hx hb dL_law_290 (by decide) ?_
  refine lv_iadd hx hb dL_law_291 ?_
  rw [show nI (4 * k) + 2 = nI (4 * k + 2) from nI_add _ _]
  refine va_sld hx hb hX hbl hbA hS hi2 dL_law_292 ?_
  rw [← ey2]
  refine lv_aload_n hx hb dL_law_293 rfl (lv_at hl 0 rfl) ?_
  refine lv_iload_n hx hb dL_law_294 rfl (lv_at hl 3 rfl) ?_
  refine lv_iconst (v := 3) hx hb dL_law_295 (by decide) ?_
  refine lv_iadd hx hb dL_law_296 ?_
  rw [show nI (4 * k) + 3 = nI (4 * k + 3) from nI_add _ _]
  refine va_sld hx hb hX hbl hbA hS hi3 dL_law_297 ?_
  rw [← ey3]
  refine x_MVp (As := [.int y1, .int y2, .int y3]) (rest := []) (wr := (wSl cI cT sl x0 x1) ++ (wM cI cZ mo b mm)) (W1 := ((wX w o hs pd sl) ++ (wT cI o a r.2.1) ++ (wH cI cT hs hst_ ta ca r.2.2) ++ (wPd cI pd sg nm pp)) ++ (wSl cI cT sl x0 x1) ++ (wM cI cZ mo b mm)) hF (c_X3_insult l D cI cZ cT G _ w sl o a t hs hst_ ta ca hh pd sg nm pp y1 y2 y3 r hr) (cwV 3 hts (gqV mw_655 mw_656 mw_657 mw_51 mw_336) rfl rfl rfl hd_X3_insult ⟨Nat.le_of_ble_eq_true rfl, Nat.le_of_ble_eq_true rfl⟩) hK hP hD hS hA q_E_bl (q_E_go hE hS (q_freep (p3_X ((wX w o hs pd sl) ++ (wT cI o a t) ++ (wH cI cT hs hst_ ta ca hh) ++ (wPd cI pd sg nm pp)) (wSl cI cT sl x0 x1) (wM cI cZ mo b mm)) hD hS hA)) (p3_X ((wX w o hs pd sl) ++ (wT cI o a t) ++ (wH cI cT hs hst_ ta ca hh) ++ (wPd cI pd sg nm pp)) (wSl cI cT sl x0 x1) (wM cI cZ mo b mm)) (p3_X ((wX w o hs pd sl) ++ (wT cI o a r.2.1) ++ (wH cI cT hs hst_ ta ca r.2.2) ++ (wPd cI pd sg nm pp)) (wSl cI cT sl x0 x1) (wM cI cZ mo b mm)).symm rfl rfl rfl hl.1 rfl (Nat.le_of_ble_eq_true rfl) dL_law_298 ⟨hc, hc2⟩ (fun H locs hP hD hS => ?_)
  refine lv_aload_n hx hb dL_law_301 rfl (lv_at hl 2 rfl) ?_
  refine lv_aload_n hx hb dL_law_302 rfl (lv_at hl 0 rfl) ?_
  refine lv_iload_n hx hb dL_law_303 rfl (lv_at hl 3 rfl) ?_
  refine lv_iconst (v := 1) hx hb dL_law_304 (by decide) ?_
  refine lv_iadd hx hb dL_law_305 ?_
  rw [show nI (4 * k) + 1 = nI (4 * k + 1) from nI_add _ _]
  refine va_sld hx hb hX hbl hbA hS hi1 dL_law_306 ?_
  rw [← ey1]
  refine lv_aload_n hx hb dL_law_307 rfl (lv_at hl 0 rfl) ?_
  refine lv_iload_n hx hb dL_law_308 rfl (lv_at hl 3 rfl) ?_
  refine lv_iconst (v := 2) hx hb dL_law_309 (by decide) ?_
  refine lv_iadd hx hb dL_law_310 ?_
  rw [show nI (4 * k) + 2 = nI (4 * k + 2) from nI_add _ _]
  refine va_sld hx hb hX hbl hbA hS hi2 dL_law_311 ?_
  rw [← ey2]
  refine lv_aload_n hx hb dL_law_312 rfl (lv_at hl 0 rfl) ?_
  refine lv_iload_n hx hb dL_law_313 rfl (lv_at hl 3 rfl) ?_
  refine lv_iconst (v := 3) hx hb dL_law_314 (by decide) ?_
  refine lv_iadd hx hb dL_law_315 ?_
  rw [show nI (4 * k) + 3 = nI (4 * k + 3) from nI_add _ _]
  refine va_sld hx hb hX hbl hbA hS hi3 dL_law_316 ?_
  rw [← ey3]
  refine x_MVp (As := [.int y1, .int y2, .int y3]) (rest := [.int r.1]) (wr := ((wX w o hs pd sl) ++ (wT cI o a r.2.1) ++ (wH cI cT hs hst_ ta ca r.2.2) ++ (wPd cI pd sg nm pp)) ++ (wSl cI cT sl x0 x1)) (W1 := ((wX w o hs pd sl) ++ (wT cI o a r.2.1) ++ (wH cI cT hs hst_ ta ca r.2.2) ++ (wPd cI pd sg nm pp)) ++ (wSl cI cT sl x0 x1) ++ (wM cI cZ mo b z.2)) hF (c_X4_insult l D cI cZ cT _ mo b mm y1 y2 y3 z hz) (cwV 3 hts (gqV mw_658 mw_659 mw_660 mw_428 mw_537) rfl rfl rfl hd_X4_insult ⟨Nat.le_of_ble_eq_true rfl, Nat.le_of_ble_eq_true rfl⟩) hK hP hD hS hA q_T_bl (fun _ _ _ => (trivial : True)) (List.Perm.refl _) (List.Perm.refl _) rfl rfl rfl hl.1 rfl (Nat.le_of_ble_eq_true rfl) dL_law_317 ⟨hc, hc2⟩ (fun H locs hP hD hS => ?_)
  refine lv_icmp_eq (tgt := 904) hx hb dL_law_320 (by decide) (fun c9 => ?_) (fun c9 => ?_)
  · exact kk _ _ _ _ _ _ hJ1 H locs ls hP hD hS hl
  · exact absurd hv c9
set_option maxHeartbeats 8000000 in
set_option maxRecDepth 100000 in
theorem lc_settle {G : q_G} {bs L : Nat} {xs : Nat → Int32} (J : JT) (hst : St_settle J) {Q : State → Prop} (C0 : q_At p s m args meth c code 4 ret RL) (hK : va_K D vwCl (q_tys cI cZ cT) s) (hA : ∀ q, s.heap.size ≤ q → (fun q : Nat => s.heap.size ≤ q) q) (hE : q_E G (fun q : Nat => s.heap.size ≤ q) s) (hX : va_X bs L xs s s.heap) (hbl : bs < s.heap.size) (hbA : ¬ (fun q : Nat => s.heap.size ≤ q) bs) (k : Nat) (hk512 : k < 512) (hi1 : vp_in (nI (4 * k + 1)) L) (hi2 : vp_in (nI (4 * k + 2)) L) (hi3 : vp_in (nI (4 * k + 3)) L) {cells slots : Nat} (hc : cells ≤ room_1.cells) (hc2 : slots ≤ room_1.slots) (w sl o a : Nat) (hs hst_ : Nat) (ta ca : Nat → Nat) (pd sg nm mo : Nat) (b : Nat → Nat) (x0 x1 : Option (Nat × Nat × TT)) (t : TT) (hh : HH) (pp : PP) (mm : MM) (hJ : J k t hh pp (twn x0) (twn x1) mm)
    (kk : ∀ (t : TT) (hh : HH) (pp : PP) (x0 x1 : Option (Nat × Nat × TT)) (mm : MM), J (k + 1) t hh pp (twn x0) (twn x1) mm → ∀ (H : Heap) (locs : List Loc) (ls : Array Slot), va_P D vwCl (((wX w o hs pd sl) ++ (wT cI o a t) ++ (wH cI cT hs hst_ ta ca hh) ++ (wPd cI pd sg nm pp)) ++ (wSl cI cT sl x0 x1) ++ (wM cI cZ mo b mm)) H → va_D (fun q : Nat => s.heap.size ≤ q) (((wX w o hs pd sl) ++ (wT cI o a t) ++ (wH cI cT hs hst_ ta ca hh) ++ (wPd cI pd sg nm pp)) ++ (wSl cI cT sl x0 x1) ++ (wM cI cZ mo b mm)) → va_S (fun q : Nat => s.heap.size ≤ q) s.heap H locs → lv_has ls 4 [(0, .ref bs), (1, .ref w), (2, .ref mo), (3, .int (nI (4 * k)))] → W p l e room_1 s m args below meth c H locs cells slots Q (F0 m 904 ls []))
    (H : Heap) (locs : List Loc) (ls : Array Slot) (hP : va_P D vwCl (((wX w o hs pd sl) ++ (wT cI o a t) ++ (wH cI cT hs hst_ ta ca hh) ++ (wPd cI pd sg nm pp)) ++ (wSl cI cT sl x0 x1) ++ (wM cI cZ mo b mm)) H) (hD : va_D (fun q : Nat => s.heap.size ≤ q) (((wX w o hs pd sl) ++ (wT cI o a t) ++ (wH cI cT hs hst_ ta ca hh) ++ (wPd cI pd sg nm pp)) ++ (wSl cI cT sl x0 x1) ++ (wM cI cZ mo b mm))) (hS : va_S (fun q : Nat => s.heap.size ≤ q) s.heap H locs) (hl : lv_has ls 4 [(0, .ref bs), (1, .ref w), (2, .ref mo), (3, .int (nI (4 * k)))]) : W p l e room_1 s m args below meth c H locs cells slots Q (F0 m 325 ls []) := by
  obtain ⟨hx, hb, hr0, hml, hown, hts, hlocks⟩ := id C0
  have hF : CallFix p m c code 4 s args BW RL := ⟨hx, hb, hml, hown, hts⟩
  obtain ⟨y1, ey1⟩ : ∃ y, y = xs (nI (4 * k + 1)).toNatClampNeg := ⟨_, rfl⟩
  obtain ⟨y2, ey2⟩ : ∃ y, y = xs (nI (4 * k + 2)).toNatClampNeg := ⟨_, rfl⟩
  obtain ⟨y3, ey3⟩ : ∃ y, y = xs (nI (4 * k + 3)).toNatClampNeg := ⟨_, rfl⟩
  obtain ⟨r, z, hr, hz, hv, hJ1⟩ := hst k t hh pp (twn x0) (twn x1) mm y1 y2 hk512 hJ
  refine lv_aload_n hx hb dL_law_325 rfl (lv_at hl 1 rfl) ?_
  refine lv_aload_n hx hb dL_law_326 rfl (lv_at hl 0 rfl) ?_
  refine lv_iload_n hx hb dL_law_327 rfl (lv_at hl 3 rfl) ?_
  refine lv_iconst (v := 1) hx hb dL_law_328 (by decide) ?_
  refine lv_iadd hx hb dL_law_329 ?_
  rw [show nI (4 * k) + 1 = nI (4 * k + 1) from nI_add _ _]
  refine va_sld hx hb hX hbl hbA hS hi1 dL_law_330 ?_
  rw [← ey1]
  refine lv_aload_n hx hb dL_law_331 rfl (lv_at hl 0 rfl) ?_
  refine lv_iload_n hx hb dL_law_332 rfl (lv_at hl 3 rfl) ?_
  refine lv_iconst (v := 2) hx hb dL_law_333 (by decide) ?_
  refine lv_iadd hx hb dL_law_334 ?_
  rw [show nI (4 * k) + 2 = nI (4 * k + 2) from nI_add _ _]
  refine va_sld hx hb hX hbl hbA hS hi2 dL_law_335 ?_
  rw [← ey2]
  refine x_MVp (As := [.int y1, .int y2]) (rest := []) (wr := (wSl cI cT sl x0 x1) ++ (wM cI cZ mo b mm)) (W1 := ((wX w o hs pd sl) ++ (wT cI o a r.2.1) ++ (wH cI cT hs hst_ ta ca r.2.2) ++ (wPd cI pd sg nm pp)) ++ (wSl cI cT sl x0 x1) ++ (wM cI cZ mo b mm)) hF (c_X3_settle l D cI cZ cT G _ w sl o a t hs hst_ ta ca hh pd sg nm pp y1 y2 r hr) (cwV 2 hts (gqV mw_661 mw_662 mw_663 mw_51 mw_339) rfl rfl rfl hd_X3_settle ⟨Nat.le_of_ble_eq_true rfl, Nat.le_of_ble_eq_true rfl⟩) hK hP hD hS hA q_E_bl (q_E_go hE hS (q_freep (p3_X ((wX w o hs pd sl) ++ (wT cI o a t) ++ (wH cI cT hs hst_ ta ca hh) ++ (wPd cI pd sg nm pp)) (wSl cI cT sl x0 x1) (wM cI cZ mo b mm)) hD hS hA)) (p3_X ((wX w o hs pd sl) ++ (wT cI o a t) ++ (wH cI cT hs hst_ ta ca hh) ++ (wPd cI pd sg nm pp)) (wSl cI cT sl x0 x1) (wM cI cZ mo b mm)) (p3_X ((wX w o hs pd sl) ++ (wT cI o a r.2.1) ++ (wH cI cT hs hst_ ta ca r.2.2) ++ (wPd cI pd sg nm pp)) (wSl cI cT sl x0 x1) (wM cI cZ mo b mm)).symm rfl rfl rfl hl.1 rfl (Nat.le_of_ble_eq_true rfl) dL_law_336 ⟨hc, hc2⟩ (fun H locs hP hD hS => ?_)
  refine lv_aload_n hx hb dL_law_339 rfl (lv_at hl 2 rfl) ?_
  refine lv_aload_n hx hb dL_law_340 rfl (lv_at hl 0 rfl) ?_
  refine lv_iload_n hx hb dL_law_341 rfl (lv_at hl 3 rfl) ?_
  refine lv_iconst (v := 1) hx hb dL_law_342 (by decide) ?_
  refine lv_iadd hx hb dL_law_343 ?_
  rw [show nI (4 * k) + 1 = nI (4 * k + 1) from nI_add _ _]
  refine va_sld hx hb hX hbl hbA hS hi1 dL_law_344 ?_
  rw [← ey1]
  refine lv_aload_n hx hb dL_law_345 rfl (lv_at hl 0 rfl) ?_
  refine lv_iload_n hx hb dL_law_346 rfl (lv_at hl 3 rfl) ?_
  refine lv_iconst (v := 2) hx hb dL_law_347 (by decide) ?_
  refine lv_iadd hx hb dL_law_348 ?_
  rw [show nI (4 * k) + 2 = nI (4 * k + 2) from nI_add _ _]
  refine va_sld hx hb hX hbl hbA hS hi2 dL_law_349 ?_
  rw [← ey2]
  refine x_MVp (As := [.int y1, .int y2]) (rest := [.int r.1]) (wr := ((wX w o hs pd sl) ++ (wT cI o a r.2.1) ++ (wH cI cT hs hst_ ta ca r.2.2) ++ (wPd cI pd sg nm pp)) ++ (wSl cI cT sl x0 x1)) (W1 := ((wX w o hs pd sl) ++ (wT cI o a r.2.1) ++ (wH cI cT hs hst_ ta ca r.2.2) ++ (wPd cI pd sg nm pp)) ++ (wSl cI cT sl x0 x1) ++ (wM cI cZ mo b z.2)) hF (c_X4_settle l D cI cZ cT _ mo b mm y1 y2 z hz) (cwV 2 hts (gqV mw_664 mw_665 mw_666 mw_428 mw_541) rfl rfl rfl hd_X4_settle ⟨Nat.le_of_ble_eq_true rfl, Nat.le_of_ble_eq_true rfl⟩) hK hP hD hS hA q_T_bl (fun _ _ _ => (trivial : True)) (List.Perm.refl _) (List.Perm.refl _) rfl rfl rfl hl.1 rfl (Nat.le_of_ble_eq_true rfl) dL_law_350 ⟨hc, hc2⟩ (fun H locs hP hD hS => ?_)
  refine lv_icmp_eq (tgt := 904) hx hb dL_law_353 (by decide) (fun c9 => ?_) (fun c9 => ?_)
  · exact kk _ _ _ _ _ _ hJ1 H locs ls hP hD hS hl
  · exact absurd hv c9
set_option maxHeartbeats 8000000 in
set_option maxRecDepth 100000 in
theorem lc_fight {G : q_G} {bs L : Nat} {xs : Nat → Int32} (J : JT) (hst : St_fight J) {Q : State → Prop} (C0 : q_At p s m args meth c code 4 ret RL) (hK : va_K D vwCl (q_tys cI cZ cT) s) (hA : ∀ q, s.heap.size ≤ q → (fun q : Nat => s.heap.size ≤ q) q) (hE : q_E G (fun q : Nat => s.heap.size ≤ q) s) (hX : va_X bs L xs s s.heap) (hbl : bs < s.heap.size) (hbA : ¬ (fun q : Nat => s.heap.size ≤ q) bs) (k : Nat) (hk512 : k < 512) (hi1 : vp_in (nI (4 * k + 1)) L) (hi2 : vp_in (nI (4 * k + 2)) L) (hi3 : vp_in (nI (4 * k + 3)) L) {cells slots : Nat} (hc : cells ≤ room_1.cells) (hc2 : slots ≤ room_1.slots) (w sl o a : Nat) (hs hst_ : Nat) (ta ca : Nat → Nat) (pd sg nm mo : Nat) (b : Nat → Nat) (x0 x1 : Option (Nat × Nat × TT)) (t : TT) (hh : HH) (pp : PP) (mm : MM) (hJ : J k t hh pp (twn x0) (twn x1) mm)
    (kk : ∀ (t : TT) (hh : HH) (pp : PP) (x0 x1 : Option (Nat × Nat × TT)) (mm : MM), J (k + 1) t hh pp (twn x0) (twn x1) mm → ∀ (H : Heap) (locs : List Loc) (ls : Array Slot), va_P D vwCl (((wX w o hs pd sl) ++ (wT cI o a t) ++ (wH cI cT hs hst_ ta ca hh) ++ (wPd cI pd sg nm pp)) ++ (wSl cI cT sl x0 x1) ++ (wM cI cZ mo b mm)) H → va_D (fun q : Nat => s.heap.size ≤ q) (((wX w o hs pd sl) ++ (wT cI o a t) ++ (wH cI cT hs hst_ ta ca hh) ++ (wPd cI pd sg nm pp)) ++ (wSl cI cT sl x0 x1) ++ (wM cI cZ mo b mm)) → va_S (fun q : Nat => s.heap.size ≤ q) s.heap H locs → lv_has ls 4 [(0, .ref bs), (1, .ref w), (2, .ref mo), (3, .int (nI (4 * k)))] → W p l e room_1 s m args below meth c H locs cells slots Q (F0 m 904 ls []))
    (H : Heap) (locs : List Loc) (ls : Array Slot) (hP : va_P D vwCl (((wX w o hs pd sl) ++ (wT cI o a t) ++ (wH cI cT hs hst_ ta ca hh) ++ (wPd cI pd sg nm pp)) ++ (wSl cI cT sl x0 x1) ++ (wM cI cZ mo b mm)) H) (hD : va_D (fun q : Nat => s.heap.size ≤ q) (((wX w o hs pd sl) ++ (wT cI o a t) ++ (wH cI cT hs hst_ ta ca hh) ++ (wPd cI pd sg nm pp)) ++ (wSl cI cT sl x0 x1) ++ (wM cI cZ mo b mm))) (hS : va_S (fun q : Nat => s.heap.size ≤ q) s.heap H locs) (hl : lv_has ls 4 [(0, .ref bs), (1, .ref w), (2, .ref mo), (3, .int (nI (4 * k)))]) : W p l e room_1 s m args below meth c H locs cells slots Q (F0 m 358 ls []) := by
  obtain ⟨hx, hb, hr0, hml, hown, hts, hlocks⟩ := id C0
  have hF : CallFix p m c code 4 s args BW RL := ⟨hx, hb, hml, hown, hts⟩
  obtain ⟨y1, ey1⟩ : ∃ y, y = xs (nI (4 * k + 1)).toNatClampNeg := ⟨_, rfl⟩
  obtain ⟨y2, ey2⟩ : ∃ y, y = xs (nI (4 * k + 2)).toNatClampNeg := ⟨_, rfl⟩
  obtain ⟨y3, ey3⟩ : ∃ y, y = xs (nI (4 * k + 3)).toNatClampNeg := ⟨_, rfl⟩
  obtain ⟨r, z, hr, hz, hv, hJ1⟩ := hst k t hh pp (twn x0) (twn x1) mm y1 hk512 hJ
  refine lv_aload_n hx hb dL_law_358 rfl (lv_at hl 1 rfl) ?_
  refine lv_aload_n hx hb dL_law_359 rfl (lv_at hl 0 rfl) ?_
  refine lv_iload_n hx hb dL_law_360 rfl (lv_at hl 3 rfl) ?_
  refine lv_iconst (v := 1) hx hb dL_law_361 (by decide) ?_
  refine lv_iadd hx hb dL_law_362 ?_
  rw [show nI (4 * k) + 1 = nI (4 * k + 1) from nI_add _ _]
  refine va_sld hx hb hX hbl hbA hS hi1 dL_law_363 ?_
  rw [← ey1]
  refine x_MVp (As := [.int y1]) (rest := []) (wr := (wSl cI cT sl x0 x1) ++ (wM cI cZ mo b mm)) (W1 := ((wX w o hs pd sl) ++ (wT cI o a r.2.1) ++ (wH cI cT hs hst_ ta ca r.2.2) ++ (wPd cI pd sg nm pp)) ++ (wSl cI cT sl x0 x1) ++ (wM cI cZ mo b mm)) hF (c_X3_fight l D cI cZ cT G _ w sl o a t hs hst_ ta ca hh pd sg nm pp y1 r hr) (cwV 1 hts (gqV mw_667 mw_668 mw_669 mw_51 mw_342) rfl rfl rfl hd_X3_fight ⟨Nat.le_of_ble_eq_true rfl, Nat.le_of_ble_eq_true rfl⟩) hK hP hD hS hA q_E_bl (q_E_go hE hS (q_freep (p3_X ((wX w o hs pd sl) ++ (wT cI o a t) ++ (wH cI cT hs hst_ ta ca hh) ++ (wPd cI pd sg nm pp)) (wSl cI cT sl x0 x1) (wM cI cZ mo b mm)) hD hS hA)) (p3_X ((wX w o hs pd sl) ++ (wT cI o a t) ++ (wH cI cT hs hst_ ta ca hh) ++ (wPd cI pd sg nm pp)) (wSl cI cT sl x0 x1) (wM cI cZ mo b mm)) (p3_X ((wX w o hs pd sl) ++ (wT cI o a r.2.1) ++ (wH cI cT hs hst_ ta ca r.2.2) ++ (wPd cI pd sg nm pp)) (wSl cI cT sl x0 x1) (wM cI cZ mo b mm)).symm rfl rfl rfl hl.1 rfl (Nat.le_of_ble_eq_true rfl) dL_law_364 ⟨hc, hc2⟩ (fun H locs hP hD hS => ?_)
  refine lv_aload_n hx hb dL_law_367 rfl (lv_at hl 2 rfl) ?_
  refine lv_aload_n hx hb dL_law_368 rfl (lv_at hl 0 rfl) ?_
  refine lv_iload_n hx hb dL_law_369 rfl (lv_at hl 3 rfl) ?_
  refine lv_iconst (v := 1) hx hb dL_law_370 (by decide) ?_
  refine lv_iadd hx hb dL_law_371 ?_
  rw [show nI (4 * k) + 1 = nI (4 * k + 1) from nI_add _ _]
  refine va_sld hx hb hX hbl hbA hS hi1 dL_law_372 ?_
  rw [← ey1]
  refine x_MVp (As := [.int y1]) (rest := [.int r.1]) (wr := ((wX w o hs pd sl) ++ (wT cI o a r.2.1) ++ (wH cI cT hs hst_ ta ca r.2.2) ++ (wPd cI pd sg nm pp)) ++ (wSl cI cT sl x0 x1)) (W1 := ((wX w o hs pd sl) ++ (wT cI o a r.2.1) ++ (wH cI cT hs hst_ ta ca r.2.2) ++ (wPd cI pd sg nm pp)) ++ (wSl cI cT sl x0 x1) ++ (wM cI cZ mo b z.2)) hF (c_X4_fight l D cI cZ cT _ mo b mm y1 z hz) (cwV 1 hts (gqV mw_670 mw_671 mw_672 mw_428 mw_545) rfl rfl rfl hd_X4_fight ⟨Nat.le_of_ble_eq_true rfl, Nat.le_of_ble_eq_true rfl⟩) hK hP hD hS hA q_T_bl (fun _ _ _ => (trivial : True)) (List.Perm.refl _) (List.Perm.refl _) rfl rfl rfl hl.1 rfl (Nat.le_of_ble_eq_true rfl) dL_law_373 ⟨hc, hc2⟩ (fun H locs hP hD hS => ?_)
  refine lv_icmp_eq (tgt := 904) hx hb dL_law_376 (by decide) (fun c9 => ?_) (fun c9 => ?_)
  · exact kk _ _ _ _ _ _ hJ1 H locs ls hP hD hS hl
  · exact absurd hv c9
end G_LWb
section G_LWc
variable {p : Program} {l : Launch} {e : Env} {s : State} {m : MethodId} {args : Array Value} {below : List Frame} {meth : Method} {c : Code} {D : va_G} {cI cZ cT : ClassId}
set_option maxHeartbeats 8000000 in
set_option maxRecDepth 100000 in
theorem lc_swear {G : q_G} {bs L : Nat} {xs : Nat → Int32} (J : JT) (hst : St_swear J) {Q : State → Prop} (C0 : q_At p s m args meth c code 4 ret RL) (hK : va_K D vwCl (q_tys cI cZ cT) s) (hA : ∀ q, s.heap.size ≤ q → (fun q : Nat => s.heap.size ≤ q) q) (hE : q_E G (fun q : Nat => s.heap.size ≤ q) s) (hX : va_X bs L xs s s.heap) (hbl : bs < s.heap.size) (hbA : ¬ (fun q : Nat => s.heap.size ≤ q) bs) (k : Nat) (hk512 : k < 512) (hi1 : vp_in (nI (4 * k + 1)) L) (hi2 : vp_in (nI (4 * k + 2)) L) (hi3 : vp_in (nI (4 * k + 3)) L) {cells slots : Nat} (hc : cells ≤ room_1.cells) (hc2 : slots ≤ room_1.slots) (w sl o a : Nat) (hs hst_ : Nat) (ta ca : Nat → Nat) (pd sg nm mo : Nat) (b : Nat → Nat) (x0 x1 : Option (Nat × Nat × TT)) (t : TT) (hh : HH) (pp : PP) (mm : MM) (hJ : J k t hh pp (twn x0) (twn x1) mm)
    (kk : ∀ (t : TT) (hh : HH) (pp : PP) (x0 x1 : Option (Nat × Nat × TT)) (mm : MM), J (k + 1) t hh pp (twn x0) (twn x1) mm → ∀ (H : Heap) (locs : List Loc) (ls : Array Slot), va_P D vwCl (((wX w o hs pd sl) ++ (wT cI o a t) ++ (wH cI cT hs hst_ ta ca hh) ++ (wPd cI pd sg nm pp)) ++ (wSl cI cT sl x0 x1) ++ (wM cI cZ mo b mm)) H → va_D (fun q : Nat => s.heap.size ≤ q) (((wX w o hs pd sl) ++ (wT cI o a t) ++ (wH cI cT hs hst_ ta ca hh) ++ (wPd cI pd sg nm pp)) ++ (wSl cI cT sl x0 x1) ++ (wM cI cZ mo b mm)) → va_S (fun q : Nat => s.heap.size ≤ q) s.heap H locs → lv_has ls 4 [(0, .ref bs), (1, .ref w), (2, .ref mo), (3, .int (nI (4 * k)))] → W p l e room_1 s m args below meth c H locs cells slots Q (F0 m 904 ls []))
    (H : Heap) (locs : List Loc) (ls : Array Slot) (hP : va_P D vwCl (((wX w o hs pd sl) ++ (wT cI o a t) ++ (wH cI cT hs hst_ ta ca hh) ++ (wPd cI pd sg nm pp)) ++ (wSl cI cT sl x0 x1) ++ (wM cI cZ mo b mm)) H) (hD : va_D (fun q : Nat => s.heap.size ≤ q) (((wX w o hs pd sl) ++ (wT cI o a t) ++ (wH cI cT hs hst_ ta ca hh) ++ (wPd cI pd sg nm pp)) ++ (wSl cI cT sl x0 x1) ++ (wM cI cZ mo b mm))) (hS : va_S (fun q : Nat => s.heap.size ≤ q) s.heap H locs) (hl : lv_has ls 4 [(0, .ref bs), (1, .ref w), (2, .ref mo), (3, .int (nI (4 * k)))]) : W p l e room_1 s m args below meth c H locs cells slots Q (F0 m 381 ls []) := by
  obtain ⟨hx, hb, hr0, hml, hown, hts, hlocks⟩ := id C0
  have hF : CallFix p m c code 4 s args BW RL := ⟨hx, hb, hml, hown, hts⟩
  obtain ⟨y1, ey1⟩ : ∃ y, y = xs (nI (4 * k + 1)).toNatClampNeg := ⟨_, rfl⟩
  obtain ⟨y2, ey2⟩ : ∃ y, y = xs (nI (4 * k + 2)).toNatClampNeg := ⟨_, rfl⟩
  obtain ⟨y3, ey3⟩ : ∃ y, y = xs (nI (4 * k + 3)).toNatClampNeg := ⟨_, rfl⟩
  obtain ⟨r, z, hr, hz, hv, hJ1⟩ := hst k t hh pp (twn x0) (twn x1) mm y1 hk512 hJ
  refine lv_aload_n hx hb dL_law_381 rfl (lv_at hl 1 rfl) ?_
  refine lv_aload_n hx hb dL_law_382 rfl (lv_at hl 0 rfl) ?_
  refine lv_iload_n hx hb dL_law_383 rfl (lv_at hl 3 rfl) ?_
  refine lv_iconst (v := 1) hx hb dL_law_384 (by decide) ?_
  refine lv_iadd hx hb dL_law_385 ?_
  rw [show nI (4 * k) + 1 = nI (4 * k + 1) from nI_add _ _]
  refine va_sld hx hb hX hbl hbA hS hi1 dL_law_386 ?_
  rw [← ey1]
  refine x_MVp (As := [.int y1]) (rest := []) (wr := (wSl cI cT sl x0 x1) ++ (wM cI cZ mo b mm)) (W1 := ((wX w o hs pd sl) ++ (wT cI o a r.2.1) ++ (wH cI cT hs hst_ ta ca r.2.2) ++ (wPd cI pd sg nm pp)) ++ (wSl cI cT sl x0 x1) ++ (wM cI cZ mo b mm)) hF (c_X3_swear l D cI cZ cT G _ w sl o a t hs hst_ ta ca hh pd sg nm pp y1 r hr) (cwV 1 hts (gqV mw_673 mw_674 mw_675 mw_51 mw_345) rfl rfl rfl hd_X3_swear ⟨Nat.le_of_ble_eq_true rfl, Nat.le_of_ble_eq_true rfl⟩) hK hP hD hS hA q_E_bl (q_E_go hE hS (q_freep (p3_X ((wX w o hs pd sl) ++ (wT cI o a t) ++ (wH cI cT hs hst_ ta ca hh) ++ (wPd cI pd sg nm pp)) (wSl cI cT sl x0 x1) (wM cI cZ mo b mm)) hD hS hA)) (p3_X ((wX w o hs pd sl) ++ (wT cI o a t) ++ (wH cI cT hs hst_ ta ca hh) ++ (wPd cI pd sg nm pp)) (wSl cI cT sl x0 x1) (wM cI cZ mo b mm)) (p3_X ((wX w o hs pd sl) ++ (wT cI o a r.2.1) ++ (wH cI cT hs hst_ ta ca r.2.2) ++ (wPd cI pd sg nm pp)) (wSl cI cT sl x0 x1) (wM cI cZ mo b mm)).symm rfl rfl rfl hl.1 rfl (Nat.le_of_ble_eq_true rfl) dL_law_387 ⟨hc, hc2⟩ (fun H locs hP hD hS => ?_)
  refine lv_aload_n hx hb dL_law_390 rfl (lv_at hl 2 rfl) ?_
  refine lv_aload_n hx hb dL_law_391 rfl (lv_at hl 0 rfl) ?_
  refine lv_iload_n hx hb dL_law_392 rfl (lv_at hl 3 rfl) ?_
  refine lv_iconst (v := 1) hx hb dL_law_393 (by decide) ?_
  refine lv_iadd hx hb dL_law_394 ?_
  rw [show nI (4 * k) + 1 = nI (4 * k + 1) from nI_add _ _]
  refine va_sld hx hb hX hbl hbA hS hi1 dL_law_395 ?_
  rw [← ey1]
  refine x_MVp (As := [.int y1]) (rest := [.int r.1]) (wr := ((wX w o hs pd sl) ++ (wT cI o a r.2.1) ++ (wH cI cT hs hst_ ta ca r.2.2) ++ (wPd cI pd sg nm pp)) ++ (wSl cI cT sl x0 x1)) (W1 := ((wX w o hs pd sl) ++ (wT cI o a r.2.1) ++ (wH cI cT hs hst_ ta ca r.2.2) ++ (wPd cI pd sg nm pp)) ++ (wSl cI cT sl x0 x1) ++ (wM cI cZ mo b z.2)) hF (c_X4_swear l D cI cZ cT _ mo b mm y1 z hz) (cwV 1 hts (gqV mw_676 mw_677 mw_678 mw_428 mw_549) rfl rfl rfl hd_X4_swear ⟨Nat.le_of_ble_eq_true rfl, Nat.le_of_ble_eq_true rfl⟩) hK hP hD hS hA q_T_bl (fun _ _ _ => (trivial : True)) (List.Perm.refl _) (List.Perm.refl _) rfl rfl rfl hl.1 rfl (Nat.le_of_ble_eq_true rfl) dL_law_396 ⟨hc, hc2⟩ (fun H locs hP hD hS => ?_)
  refine lv_icmp_eq (tgt := 904) hx hb dL_law_399 (by decide) (fun c9 => ?_) (fun c9 => ?_)
  · exact kk _ _ _ _ _ _ hJ1 H locs ls hP hD hS hl
  · exact absurd hv c9
set_option maxHeartbeats 8000000 in
set_option maxRecDepth 100000 in
theorem lc_pass {G : q_G} {bs L : Nat} {xs : Nat → Int32} (J : JT) (hst : St_pass J) {Q : State → Prop} (C0 : q_At p s m args meth c code 4 ret RL) (hK : va_K D vwCl (q_tys cI cZ cT) s) (hA : ∀ q, s.heap.size ≤ q → (fun q : Nat => s.heap.size ≤ q) q) (hE : q_E G (fun q : Nat => s.heap.size ≤ q) s) (hX : va_X bs L xs s s.heap) (hbl : bs < s.heap.size) (hbA : ¬ (fun q : Nat => s.heap.size ≤ q) bs) (k : Nat) (hk512 : k < 512) (hi1 : vp_in (nI (4 * k + 1)) L) (hi2 : vp_in (nI (4 * k + 2)) L) (hi3 : vp_in (nI (4 * k + 3)) L) {cells slots : Nat} (hc : cells ≤ room_1.cells) (hc2 : slots ≤ room_1.slots) (w sl o a : Nat) (hs hst_ : Nat) (ta ca : Nat → Nat) (pd sg nm mo : Nat) (b : Nat → Nat) (x0 x1 : Option (Nat × Nat × TT)) (t : TT) (hh : HH) (pp : PP) (mm : MM) (hJ : J k t hh pp (twn x0) (twn x1) mm)
    (kk : ∀ (t : TT) (hh : HH) (pp : PP) (x0 x1 : Option (Nat × Nat × TT)) (mm : MM), J (k + 1) t hh pp (twn x0) (twn x1) mm → ∀ (H : Heap) (locs : List Loc) (ls : Array Slot), va_P D vwCl (((wX w o hs pd sl) ++ (wT cI o a t) ++ (wH cI cT hs hst_ ta ca hh) ++ (wPd cI pd sg nm pp)) ++ (wSl cI cT sl x0 x1) ++ (wM cI cZ mo b mm)) H → va_D (fun q : Nat => s.heap.size ≤ q) (((wX w o hs pd sl) ++ (wT cI o a t) ++ (wH cI cT hs hst_ ta ca hh) ++ (wPd cI pd sg nm pp)) ++ (wSl cI cT sl x0 x1) ++ (wM cI cZ mo b mm)) → va_S (fun q : Nat => s.heap.size ≤ q) s.heap H locs → lv_has ls 4 [(0, .ref bs), (1, .ref w), (2, .ref mo), (3, .int (nI (4 * k)))] → W p l e room_1 s m args below meth c H locs cells slots Q (F0 m 904 ls []))
    (H : Heap) (locs : List Loc) (ls : Array Slot) (hP : va_P D vwCl (((wX w o hs pd sl) ++ (wT cI o a t) ++ (wH cI cT hs hst_ ta ca hh) ++ (wPd cI pd sg nm pp)) ++ (wSl cI cT sl x0 x1) ++ (wM cI cZ mo b mm)) H) (hD : va_D (fun q : Nat => s.heap.size ≤ q) (((wX w o hs pd sl) ++ (wT cI o a t) ++ (wH cI cT hs hst_ ta ca hh) ++ (wPd cI pd sg nm pp)) ++ (wSl cI cT sl x0 x1) ++ (wM cI cZ mo b mm))) (hS : va_S (fun q : Nat => s.heap.size ≤ q) s.heap H locs) (hl : lv_has ls 4 [(0, .ref bs), (1, .ref w), (2, .ref mo), (3, .int (nI (4 * k)))]) : W p l e room_1 s m args below meth c H locs cells slots Q (F0 m 404 ls []) := by
  obtain ⟨hx, hb, hr0, hml, hown, hts, hlocks⟩ := id C0
  have hF : CallFix p m c code 4 s args BW RL := ⟨hx, hb, hml, hown, hts⟩
  obtain ⟨y1, ey1⟩ : ∃ y, y = xs (nI (4 * k + 1)).toNatClampNeg := ⟨_, rfl⟩
  obtain ⟨y2, ey2⟩ : ∃ y, y = xs (nI (4 * k + 2)).toNatClampNeg := ⟨_, rfl⟩
  obtain ⟨y3, ey3⟩ : ∃ y, y = xs (nI (4 * k + 3)).toNatClampNeg := ⟨_, rfl⟩
  obtain ⟨r, z, hr, hz, hv, hJ1⟩ := hst k t hh pp (twn x0) (twn x1) mm y1 hk512 hJ
  refine lv_aload_n hx hb dL_law_404 rfl (lv_at hl 1 rfl) ?_
  refine lv_aload_n hx hb dL_law_405 rfl (lv_at hl 0 rfl) ?_
  refine lv_iload_n hx hb dL_law_406 rfl (lv_at hl 3 rfl) ?_
  refine lv_iconst (v := 1) hx hb dL_law_407 (by decide) ?_
  refine lv_iadd hx hb dL_law_408 ?_
  rw [show nI (4 * k) + 1 = nI (4 * k + 1) from nI_add _ _]
  refine va_sld hx hb hX hbl hbA hS hi1 dL_law_409 ?_
  rw [← ey1]
  refine x_MVp (As := [.int y1]) (rest := []) (wr := (wSl cI cT sl x0 x1) ++ (wM cI cZ mo b mm)) (W1 := ((wX w o hs pd sl) ++ (wT cI o a r.2.1) ++ (wH cI cT hs hst_ ta ca r.2.2) ++ (wPd cI pd sg nm pp)) ++ (wSl cI cT sl x0 x1) ++ (wM cI cZ mo b mm)) hF (c_X3_pass l D cI cZ cT G _ w sl o a t hs hst_ ta ca hh pd sg nm pp y1 r hr) (cwV 1 hts (gqV mw_679 mw_680 mw_681 mw_51 mw_356) rfl rfl rfl hd_X3_pass ⟨Nat.le_of_ble_eq_true rfl, Nat.le_of_ble_eq_true rfl⟩) hK hP hD hS hA q_E_bl (q_E_go hE hS (q_freep (p3_X ((wX w o hs pd sl) ++ (wT cI o a t) ++ (wH cI cT hs hst_ ta ca hh) ++ (wPd cI pd sg nm pp)) (wSl cI cT sl x0 x1) (wM cI cZ mo b mm)) hD hS hA)) (p3_X ((wX w o hs pd sl) ++ (wT cI o a t) ++ (wH cI cT hs hst_ ta ca hh) ++ (wPd cI pd sg nm pp)) (wSl cI cT sl x0 x1) (wM cI cZ mo b mm)) (p3_X ((wX w o hs pd sl) ++ (wT cI o a r.2.1) ++ (wH cI cT hs hst_ ta ca r.2.2) ++ (wPd cI pd sg nm pp)) (wSl cI cT sl x0 x1) (wM cI cZ mo b mm)).symm rfl rfl rfl hl.1 rfl (Nat.le_of_ble_eq_true rfl) dL_law_410 ⟨hc, hc2⟩ (fun H locs hP hD hS => ?_)
  refine lv_aload_n hx hb dL_law_413 rfl (lv_at hl 2 rfl) ?_
  refine lv_aload_n hx hb dL_law_414 rfl (lv_at hl 0 rfl) ?_
  refine lv_iload_n hx hb dL_law_415 rfl (lv_at hl 3 rfl) ?_
  refine lv_iconst (v := 1) hx hb dL_law_416 (by decide) ?_
  refine lv_iadd hx hb dL_law_417 ?_
  rw [show nI (4 * k) + 1 = nI (4 * k + 1) from nI_add _ _]
  refine va_sld hx hb hX hbl hbA hS hi1 dL_law_418 ?_
  rw [← ey1]
  refine x_MVp (As := [.int y1]) (rest := [.int r.1]) (wr := ((wX w o hs pd sl) ++ (wT cI o a r.2.1) ++ (wH cI cT hs hst_ ta ca r.2.2) ++ (wPd cI pd sg nm pp)) ++ (wSl cI cT sl x0 x1)) (W1 := ((wX w o hs pd sl) ++ (wT cI o a r.2.1) ++ (wH cI cT hs hst_ ta ca r.2.2) ++ (wPd cI pd sg nm pp)) ++ (wSl cI cT sl x0 x1) ++ (wM cI cZ mo b z.2)) hF (c_X4_pass l D cI cZ cT _ mo b mm y1 z hz) (cwV 1 hts (gqV mw_682 mw_683 mw_684 mw_428 mw_553) rfl rfl rfl hd_X4_pass ⟨Nat.le_of_ble_eq_true rfl, Nat.le_of_ble_eq_true rfl⟩) hK hP hD hS hA q_T_bl (fun _ _ _ => (trivial : True)) (List.Perm.refl _) (List.Perm.refl _) rfl rfl rfl hl.1 rfl (Nat.le_of_ble_eq_true rfl) dL_law_419 ⟨hc, hc2⟩ (fun H locs hP hD hS => ?_)
  refine lv_icmp_eq (tgt := 904) hx hb dL_law_422 (by decide) (fun c9 => ?_) (fun c9 => ?_)
  · exact kk _ _ _ _ _ _ hJ1 H locs ls hP hD hS hl
  · exact absurd hv c9
set_option maxHeartbeats 8000000 in
set_option maxRecDepth 100000 in
theorem lc_of {G : q_G} {bs L : Nat} {xs : Nat → Int32} (J : JT) (hst : St_of J) {Q : State → Prop} (C0 : q_At p s m args meth c code 4 ret RL) (hK : va_K D vwCl (q_tys cI cZ cT) s) (hA : ∀ q, s.heap.size ≤ q → (fun q : Nat => s.heap.size ≤ q) q) (hE : q_E G (fun q : Nat => s.heap.size ≤ q) s) (hX : va_X bs L xs s s.heap) (hbl : bs < s.heap.size) (hbA : ¬ (fun q : Nat => s.heap.size ≤ q) bs) (k : Nat) (hk512 : k < 512) (hi1 : vp_in (nI (4 * k + 1)) L) (hi2 : vp_in (nI (4 * k + 2)) L) (hi3 : vp_in (nI (4 * k + 3)) L) {cells slots : Nat} (hc : cells ≤ room_1.cells) (hc2 : slots ≤ room_1.slots) (w sl o a : Nat) (hs hst_ : Nat) (ta ca : Nat → Nat) (pd sg nm mo : Nat) (b : Nat → Nat) (x0 x1 : Option (Nat × Nat × TT)) (t : TT) (hh : HH) (pp : PP) (mm : MM) (hJ : J k t hh pp (twn x0) (twn x1) mm)
    (kk : ∀ (t : TT) (hh : HH) (pp : PP) (x0 x1 : Option (Nat × Nat × TT)) (mm : MM), J (k + 1) t hh pp (twn x0) (twn x1) mm → ∀ (H : Heap) (locs : List Loc) (ls : Array Slot), va_P D vwCl (((wX w o hs pd sl) ++ (wT cI o a t) ++ (wH cI cT hs hst_ ta ca hh) ++ (wPd cI pd sg nm pp)) ++ (wSl cI cT sl x0 x1) ++ (wM cI cZ mo b mm)) H → va_D (fun q : Nat => s.heap.size ≤ q) (((wX w o hs pd sl) ++ (wT cI o a t) ++ (wH cI cT hs hst_ ta ca hh) ++ (wPd cI pd sg nm pp)) ++ (wSl cI cT sl x0 x1) ++ (wM cI cZ mo b mm)) → va_S (fun q : Nat => s.heap.size ≤ q) s.heap H locs → lv_has ls 4 [(0, .ref bs), (1, .ref w), (2, .ref mo), (3, .int (nI (4 * k)))] → W p l e room_1 s m args below meth c H locs cells slots Q (F0 m 904 ls []))
    (H : Heap) (locs : List Loc) (ls : Array Slot) (hP : va_P D vwCl (((wX w o hs pd sl) ++ (wT cI o a t) ++ (wH cI cT hs hst_ ta ca hh) ++ (wPd cI pd sg nm pp)) ++ (wSl cI cT sl x0 x1) ++ (wM cI cZ mo b mm)) H) (hD : va_D (fun q : Nat => s.heap.size ≤ q) (((wX w o hs pd sl) ++ (wT cI o a t) ++ (wH cI cT hs hst_ ta ca hh) ++ (wPd cI pd sg nm pp)) ++ (wSl cI cT sl x0 x1) ++ (wM cI cZ mo b mm))) (hS : va_S (fun q : Nat => s.heap.size ≤ q) s.heap H locs) (hl : lv_has ls 4 [(0, .ref bs), (1, .ref w), (2, .ref mo), (3, .int (nI (4 * k)))]) : W p l e room_1 s m args below meth c H locs cells slots Q (F0 m 427 ls []) := by
  obtain ⟨hx, hb, hr0, hml, hown, hts, hlocks⟩ := id C0
  have hF : CallFix p m c code 4 s args BW RL := ⟨hx, hb, hml, hown, hts⟩
  obtain ⟨y1, ey1⟩ : ∃ y, y = xs (nI (4 * k + 1)).toNatClampNeg := ⟨_, rfl⟩
  obtain ⟨y2, ey2⟩ : ∃ y, y = xs (nI (4 * k + 2)).toNatClampNeg := ⟨_, rfl⟩
  obtain ⟨y3, ey3⟩ : ∃ y, y = xs (nI (4 * k + 3)).toNatClampNeg := ⟨_, rfl⟩
  obtain ⟨r, hr, hz, hJ1⟩ := hst k t hh pp (twn x0) (twn x1) mm y1 y2 hk512 hJ
  refine lv_aload_n hx hb dL_law_427 rfl (lv_at hl 1 rfl) ?_
  refine lv_aload_n hx hb dL_law_428 rfl (lv_at hl 0 rfl) ?_
  refine lv_iload_n hx hb dL_law_429 rfl (lv_at hl 3 rfl) ?_
  refine lv_iconst (v := 1) hx hb dL_law_430 (by decide) ?_
  refine lv_iadd hx hb dL_law_431 ?_
  rw [show nI (4 * k) + 1 = nI (4 * k + 1) from nI_add _ _]
  refine va_sld hx hb hX hbl hbA hS hi1 dL_law_432 ?_
  rw [← ey1]
  refine lv_aload_n hx hb dL_law_433 rfl (lv_at hl 0 rfl) ?_
  refine lv_iload_n hx hb dL_law_434 rfl (lv_at hl 3 rfl) ?_
  refine lv_iconst (v := 2) hx hb dL_law_435 (by decide) ?_
  refine lv_iadd hx hb dL_law_436 ?_
  rw [show nI (4 * k) + 2 = nI (4 * k + 2) from nI_add _ _]
  refine va_sld hx hb hX hbl hbA hS hi2 dL_law_437 ?_
  rw [← ey2]
  refine x_RV (As := [.int y1, .int y2]) (rest := []) (wc := (wX w o hs pd sl) ++ (wT cI o a t) ++ (wH cI cT hs hst_ ta ca hh) ++ (wPd cI pd sg nm pp)) hF (c_X3_of l D cI cZ cT G (fun q : Nat => s.heap.size ≤ q) w sl o a t hs hst_ ta ca hh pd sg nm pp y1 y2 r hr) (cwV 2 hts (gqV mw_685 mw_686 mw_687 mw_51 mw_359) rfl rfl rfl hd_X3_of ⟨Nat.le_of_ble_eq_true rfl, Nat.le_of_ble_eq_true rfl⟩) hK hP.left.left q_E_bl (q_E_go hE hS (fun _ h9 => h9)) (List.range 22) rfl rfl rfl rfl hl.1 rfl (Nat.le_of_ble_eq_true rfl) dL_law_438 ⟨hc, hc2⟩ ?_
  refine lv_aload_n hx hb dL_law_441 rfl (lv_at hl 2 rfl) ?_
  refine lv_aload_n hx hb dL_law_442 rfl (lv_at hl 0 rfl) ?_
  refine lv_iload_n hx hb dL_law_443 rfl (lv_at hl 3 rfl) ?_
  refine lv_iconst (v := 1) hx hb dL_law_444 (by decide) ?_
  refine lv_iadd hx hb dL_law_445 ?_
  rw [show nI (4 * k) + 1 = nI (4 * k + 1) from nI_add _ _]
  refine va_sld hx hb hX hbl hbA hS hi1 dL_law_446 ?_
  rw [← ey1]
  refine lv_aload_n hx hb dL_law_447 rfl (lv_at hl 0 rfl) ?_
  refine lv_iload_n hx hb dL_law_448 rfl (lv_at hl 3 rfl) ?_
  refine lv_iconst (v := 2) hx hb dL_law_449 (by decide) ?_
  refine lv_iadd hx hb dL_law_450 ?_
  rw [show nI (4 * k) + 2 = nI (4 * k + 2) from nI_add _ _]
  refine va_sld hx hb hX hbl hbA hS hi2 dL_law_451 ?_
  rw [← ey2]
  refine x_RV (As := [.int y1, .int y2]) (rest := [.int r]) (wc := wS cI mo (wMf b mm) (b 0) mm.1) hF (c_X4_of l D cI cZ cT mo (wMf b mm) (b 0) rfl mm.1 y1 y2 r hz) (cwV 2 hts (gqV mw_688 mw_689 mw_690 mw_428 mw_566) rfl rfl rfl hd_X4_of ⟨Nat.le_of_ble_eq_true rfl, Nat.le_of_ble_eq_true rfl⟩) hK hP.right q_T_bl (fun _ _ _ => trivial) ([0, 1]) rfl rfl rfl rfl hl.1 rfl (Nat.le_of_ble_eq_true rfl) dL_law_452 ⟨hc, hc2⟩ ?_
  refine lv_icmp_eq (tgt := 904) hx hb dL_law_455 (by decide) (fun c9 => ?_) (fun c9 => ?_)
  · exact kk _ _ _ _ _ _ hJ1 H locs ls hP hD hS hl
  · exact absurd rfl c9
set_option maxHeartbeats 8000000 in
set_option maxRecDepth 100000 in
theorem lc_quarrel {G : q_G} {bs L : Nat} {xs : Nat → Int32} (J : JT) (hst : St_quarrel J) {Q : State → Prop} (C0 : q_At p s m args meth c code 4 ret RL) (hK : va_K D vwCl (q_tys cI cZ cT) s) (hA : ∀ q, s.heap.size ≤ q → (fun q : Nat => s.heap.size ≤ q) q) (hE : q_E G (fun q : Nat => s.heap.size ≤ q) s) (hX : va_X bs L xs s s.heap) (hbl : bs < s.heap.size) (hbA : ¬ (fun q : Nat => s.heap.size ≤ q) bs) (k : Nat) (hk512 : k < 512) (hi1 : vp_in (nI (4 * k + 1)) L) (hi2 : vp_in (nI (4 * k + 2)) L) (hi3 : vp_in (nI (4 * k + 3)) L) {cells slots : Nat} (hc : cells ≤ room_1.cells) (hc2 : slots ≤ room_1.slots) (w sl o a : Nat) (hs hst_ : Nat) (ta ca : Nat → Nat) (pd sg nm mo : Nat) (b : Nat → Nat) (x0 x1 : Option (Nat × Nat × TT)) (t : TT) (hh : HH) (pp : PP) (mm : MM) (hJ : J k t hh pp (twn x0) (twn x1) mm)
    (kk : ∀ (t : TT) (hh : HH) (pp : PP) (x0 x1 : Option (Nat × Nat × TT)) (mm : MM), J (k + 1) t hh pp (twn x0) (twn x1) mm → ∀ (H : Heap) (locs : List Loc) (ls : Array Slot), va_P D vwCl (((wX w o hs pd sl) ++ (wT cI o a t) ++ (wH cI cT hs hst_ ta ca hh) ++ (wPd cI pd sg nm pp)) ++ (wSl cI cT sl x0 x1) ++ (wM cI cZ mo b mm)) H → va_D (fun q : Nat => s.heap.size ≤ q) (((wX w o hs pd sl) ++ (wT cI o a t) ++ (wH cI cT hs hst_ ta ca hh) ++ (wPd cI pd sg nm pp)) ++ (wSl cI cT sl x0 x1) ++ (wM cI cZ mo b mm)) → va_S (fun q : Nat => s.heap.size ≤ q) s.heap H locs → lv_has ls 4 [(0, .ref bs), (1, .ref w), (2, .ref mo), (3, .int (nI (4 * k)))] → W p l e room_1 s m args below meth c H locs cells slots Q (F0 m 904 ls []))
    (H : Heap) (locs : List Loc) (ls : Array Slot) (hP : va_P D vwCl (((wX w o hs pd sl) ++ (wT cI o a t) ++ (wH cI cT hs hst_ ta ca hh) ++ (wPd cI pd sg nm pp)) ++ (wSl cI cT sl x0 x1) ++ (wM cI cZ mo b mm)) H) (hD : va_D (fun q : Nat => s.heap.size ≤ q) (((wX w o hs pd sl) ++ (wT cI o a t) ++ (wH cI cT hs hst_ ta ca hh) ++ (wPd cI pd sg nm pp)) ++ (wSl cI cT sl x0 x1) ++ (wM cI cZ mo b mm))) (hS : va_S (fun q : Nat => s.heap.size ≤ q) s.heap H locs) (hl : lv_has ls 4 [(0, .ref bs), (1, .ref w), (2, .ref mo), (3, .int (nI (4 * k)))]) : W p l e room_1 s m args below meth c H locs cells slots Q (F0 m 460 ls []) := by
  obtain ⟨hx, hb, hr0, hml, hown, hts, hlocks⟩ := id C0
  have hF : CallFix p m c code 4 s args BW RL := ⟨hx, hb, hml, hown, hts⟩
  obtain ⟨y1, ey1⟩ : ∃ y, y = xs (nI (4 * k + 1)).toNatClampNeg := ⟨_, rfl⟩
  obtain ⟨y2, ey2⟩ : ∃ y, y = xs (nI (4 * k + 2)).toNatClampNeg := ⟨_, rfl⟩
  obtain ⟨y3, ey3⟩ : ∃ y, y = xs (nI (4 * k + 3)).toNatClampNeg := ⟨_, rfl⟩
  obtain ⟨r, hr, hz, hJ1⟩ := hst k t hh pp (twn x0) (twn x1) mm y1 y2 hk512 hJ
  refine lv_aload_n hx hb dL_law_460 rfl (lv_at hl 1 rfl) ?_
  refine lv_aload_n hx hb dL_law_461 rfl (lv_at hl 0 rfl) ?_
  refine lv_iload_n hx hb dL_law_462 rfl (lv_at hl 3 rfl) ?_
  refine lv_iconst (v := 1) hx hb dL_law_463 (by decide) ?_
  refine lv_iadd hx hb dL_law_464 ?_
  rw [show nI (4 * k) + 1 = nI (4 * k + 1) from nI_add _ _]
  refine va_sld hx hb hX hbl hbA hS hi1 dL_law_465 ?_
  rw [← ey1]
  refine lv_aload_n hx hb dL_law_466 rfl (lv_at hl 0 rfl) ?_
  refine lv_iload_n hx hb dL_law_467 rfl (lv_at hl 3 rfl) ?_
  refine lv_iconst (v := 2) hx hb dL_law_468 (by decide) ?_
  refine lv_iadd hx hb dL_law_469 ?_
  rw [show nI (4 * k) + 2 = nI (4 * k + 2) from nI_add _ _]
  refine va_sld hx hb hX hbl hbA hS hi2 dL_law_470 ?_
  rw [← ey2]
  refine x_RV (As := [.int y1, .int y2]) (rest := []) (wc := (wX w o hs pd sl) ++ (wT cI o a t) ++ (wH cI cT hs hst_ ta ca hh) ++ (wPd cI pd sg nm pp)) hF (c_X3_quarrel l D cI cZ cT G (fun q : Nat => s.heap.size ≤ q) w sl o a t hs hst_ ta ca hh pd sg nm pp y1 y2 r hr) (cwV 2 hts (gqV mw_691 mw_692 mw_693 mw_51 mw_362) rfl rfl rfl hd_X3_quarrel ⟨Nat.le_of_ble_eq_true rfl, Nat.le_of_ble_eq_true rfl⟩) hK hP.left.left q_E_bl (q_E_go hE hS (fun _ h9 => h9)) (List.range 22) rfl rfl rfl rfl hl.1 rfl (Nat.le_of_ble_eq_true rfl) dL_law_471 ⟨hc, hc2⟩ ?_
  refine lv_aload_n hx hb dL_law_474 rfl (lv_at hl 2 rfl) ?_
  refine lv_aload_n hx hb dL_law_475 rfl (lv_at hl 0 rfl) ?_
  refine lv_iload_n hx hb dL_law_476 rfl (lv_at hl 3 rfl) ?_
  refine lv_iconst (v := 1) hx hb dL_law_477 (by decide) ?_
  refine lv_iadd hx hb dL_law_478 ?_
  rw [show nI (4 * k) + 1 = nI (4 * k + 1) from nI_add _ _]
  refine va_sld hx hb hX hbl hbA hS hi1 dL_law_479 ?_
  rw [← ey1]
  refine lv_aload_n hx hb dL_law_480 rfl (lv_at hl 0 rfl) ?_
  refine lv_iload_n hx hb dL_law_481 rfl (lv_at hl 3 rfl) ?_
  refine lv_iconst (v := 2) hx hb dL_law_482 (by decide) ?_
  refine lv_iadd hx hb dL_law_483 ?_
  rw [show nI (4 * k) + 2 = nI (4 * k + 2) from nI_add _ _]
  refine va_sld hx hb hX hbl hbA hS hi2 dL_law_484 ?_
  rw [← ey2]
  refine x_RV (As := [.int y1, .int y2]) (rest := [.int r]) (wc := wS cI mo (wMf b mm) (b 0) mm.1) hF (c_X4_quarrel l D cI cZ cT mo (wMf b mm) (b 0) rfl mm.1 y1 y2 r hz) (cwV 2 hts (gqV mw_694 mw_695 mw_696 mw_428 mw_567) rfl rfl rfl hd_X4_quarrel ⟨Nat.le_of_ble_eq_true rfl, Nat.le_of_ble_eq_true rfl⟩) hK hP.right q_T_bl (fun _ _ _ => trivial) ([0, 1]) rfl rfl rfl rfl hl.1 rfl (Nat.le_of_ble_eq_true rfl) dL_law_485 ⟨hc, hc2⟩ ?_
  refine lv_icmp_eq (tgt := 904) hx hb dL_law_488 (by decide) (fun c9 => ?_) (fun c9 => ?_)
  · exact kk _ _ _ _ _ _ hJ1 H locs ls hP hD hS hl
  · exact absurd rfl c9
set_option maxHeartbeats 8000000 in
set_option maxRecDepth 100000 in
theorem lc_record {G : q_G} {bs L : Nat} {xs : Nat → Int32} (J : JT) (hst : St_record J) {Q : State → Prop} (C0 : q_At p s m args meth c code 4 ret RL) (hK : va_K D vwCl (q_tys cI cZ cT) s) (hA : ∀ q, s.heap.size ≤ q → (fun q : Nat => s.heap.size ≤ q) q) (hE : q_E G (fun q : Nat => s.heap.size ≤ q) s) (hX : va_X bs L xs s s.heap) (hbl : bs < s.heap.size) (hbA : ¬ (fun q : Nat => s.heap.size ≤ q) bs) (k : Nat) (hk512 : k < 512) (hi1 : vp_in (nI (4 * k + 1)) L) (hi2 : vp_in (nI (4 * k + 2)) L) (hi3 : vp_in (nI (4 * k + 3)) L) {cells slots : Nat} (hc : cells ≤ room_1.cells) (hc2 : slots ≤ room_1.slots) (w sl o a : Nat) (hs hst_ : Nat) (ta ca : Nat → Nat) (pd sg nm mo : Nat) (b : Nat → Nat) (x0 x1 : Option (Nat × Nat × TT)) (t : TT) (hh : HH) (pp : PP) (mm : MM) (hJ : J k t hh pp (twn x0) (twn x1) mm)
    (kk : ∀ (t : TT) (hh : HH) (pp : PP) (x0 x1 : Option (Nat × Nat × TT)) (mm : MM), J (k + 1) t hh pp (twn x0) (twn x1) mm → ∀ (H : Heap) (locs : List Loc) (ls : Array Slot), va_P D vwCl (((wX w o hs pd sl) ++ (wT cI o a t) ++ (wH cI cT hs hst_ ta ca hh) ++ (wPd cI pd sg nm pp)) ++ (wSl cI cT sl x0 x1) ++ (wM cI cZ mo b mm)) H → va_D (fun q : Nat => s.heap.size ≤ q) (((wX w o hs pd sl) ++ (wT cI o a t) ++ (wH cI cT hs hst_ ta ca hh) ++ (wPd cI pd sg nm pp)) ++ (wSl cI cT sl x0 x1) ++ (wM cI cZ mo b mm)) → va_S (fun q : Nat => s.heap.size ≤ q) s.heap H locs → lv_has ls 4 [(0, .ref bs), (1, .ref w), (2, .ref mo), (3, .int (nI (4 * k)))] → W p l e room_1 s m args below meth c H locs cells slots Q (F0 m 904 ls []))
    (H : Heap) (locs : List Loc) (ls : Array Slot) (hP : va_P D vwCl (((wX w o hs pd sl) ++ (wT cI o a t) ++ (wH cI cT hs hst_ ta ca hh) ++ (wPd cI pd sg nm pp)) ++ (wSl cI cT sl x0 x1) ++ (wM cI cZ mo b mm)) H) (hD : va_D (fun q : Nat => s.heap.size ≤ q) (((wX w o hs pd sl) ++ (wT cI o a t) ++ (wH cI cT hs hst_ ta ca hh) ++ (wPd cI pd sg nm pp)) ++ (wSl cI cT sl x0 x1) ++ (wM cI cZ mo b mm))) (hS : va_S (fun q : Nat => s.heap.size ≤ q) s.heap H locs) (hl : lv_has ls 4 [(0, .ref bs), (1, .ref w), (2, .ref mo), (3, .int (nI (4 * k)))]) : W p l e room_1 s m args below meth c H locs cells slots Q (F0 m 493 ls []) := by
  obtain ⟨hx, hb, hr0, hml, hown, hts, hlocks⟩ := id C0
  have hF : CallFix p m c code 4 s args BW RL := ⟨hx, hb, hml, hown, hts⟩
  obtain ⟨y1, ey1⟩ : ∃ y, y = xs (nI (4 * k + 1)).toNatClampNeg := ⟨_, rfl⟩
  obtain ⟨y2, ey2⟩ : ∃ y, y = xs (nI (4 * k + 2)).toNatClampNeg := ⟨_, rfl⟩
  obtain ⟨y3, ey3⟩ : ∃ y, y = xs (nI (4 * k + 3)).toNatClampNeg := ⟨_, rfl⟩
  obtain ⟨r, hr, hz, hJ1⟩ := hst k t hh pp (twn x0) (twn x1) mm y1 y2 hk512 hJ
  refine lv_aload_n hx hb dL_law_493 rfl (lv_at hl 1 rfl) ?_
  refine lv_aload_n hx hb dL_law_494 rfl (lv_at hl 0 rfl) ?_
  refine lv_iload_n hx hb dL_law_495 rfl (lv_at hl 3 rfl) ?_
  refine lv_iconst (v := 1) hx hb dL_law_496 (by decide) ?_
  refine lv_iadd hx hb dL_law_497 ?_
  rw [show nI (4 * k) + 1 = nI (4 * k + 1) from nI_add _ _]
  refine va_sld hx hb hX hbl hbA hS hi1 dL_law_498 ?_
  rw [← ey1]
  refine lv_aload_n hx hb dL_law_499 rfl (lv_at hl 0 rfl) ?_
  refine lv_iload_n hx hb dL_law_500 rfl (lv_at hl 3 rfl) ?_
  refine lv_iconst (v := 2) hx hb dL_law_501 (by decide) ?_
  refine lv_iadd hx hb dL_law_502 ?_
  rw [show nI (4 * k) + 2 = nI (4 * k + 2) from nI_add _ _]
  refine va_sld hx hb hX hbl hbA hS hi2 dL_law_503 ?_
  rw [← ey2]
  refine x_RV (As := [.int y1, .int y2]) (rest := []) (wc := (wX w o hs pd sl) ++ (wT cI o a t) ++ (wH cI cT hs hst_ ta ca hh) ++ (wPd cI pd sg nm pp)) hF (c_X3_record l D cI cZ cT G (fun q : Nat => s.heap.size ≤ q) w sl o a t hs hst_ ta ca hh pd sg nm pp y1 y2 r hr) (cwV 2 hts (gqV mw_697 mw_698 mw_699 mw_51 mw_363) rfl rfl rfl hd_X3_record ⟨Nat.le_of_ble_eq_true rfl, Nat.le_of_ble_eq_true rfl⟩) hK hP.left.left q_E_bl (q_E_go hE hS (fun _ h9 => h9)) (List.range 22) rfl rfl rfl rfl hl.1 rfl (Nat.le_of_ble_eq_true rfl) dL_law_504 ⟨hc, hc2⟩ ?_
  refine lv_aload_n hx hb dL_law_507 rfl (lv_at hl 2 rfl) ?_
  refine lv_aload_n hx hb dL_law_508 rfl (lv_at hl 0 rfl) ?_
  refine lv_iload_n hx hb dL_law_509 rfl (lv_at hl 3 rfl) ?_
  refine lv_iconst (v := 1) hx hb dL_law_510 (by decide) ?_
  refine lv_iadd hx hb dL_law_511 ?_
  rw [show nI (4 * k) + 1 = nI (4 * k + 1) from nI_add _ _]
  refine va_sld hx hb hX hbl hbA hS hi1 dL_law_512 ?_
  rw [← ey1]
  refine lv_aload_n hx hb dL_law_513 rfl (lv_at hl 0 rfl) ?_
  refine lv_iload_n hx hb dL_law_514 rfl (lv_at hl 3 rfl) ?_
  refine lv_iconst (v := 2) hx hb dL_law_515 (by decide) ?_
  refine lv_iadd hx hb dL_law_516 ?_
  rw [show nI (4 * k) + 2 = nI (4 * k + 2) from nI_add _ _]
  refine va_sld hx hb hX hbl hbA hS hi2 dL_law_517 ?_
  rw [← ey2]
  refine x_RV (As := [.int y1, .int y2]) (rest := [.int r]) (wc := wS cI mo (wMf b mm) (b 0) mm.1) hF (c_X4_record l D cI cZ cT mo (wMf b mm) (b 0) rfl mm.1 y1 y2 r hz) (cwV 2 hts (gqV mw_700 mw_701 mw_702 mw_428 mw_568) rfl rfl rfl hd_X4_record ⟨Nat.le_of_ble_eq_true rfl, Nat.le_of_ble_eq_true rfl⟩) hK hP.right q_T_bl (fun _ _ _ => trivial) ([0, 1]) rfl rfl rfl rfl hl.1 rfl (Nat.le_of_ble_eq_true rfl) dL_law_518 ⟨hc, hc2⟩ ?_
  refine lv_icmp_eq (tgt := 904) hx hb dL_law_521 (by decide) (fun c9 => ?_) (fun c9 => ?_)
  · exact kk _ _ _ _ _ _ hJ1 H locs ls hP hD hS hl
  · exact absurd rfl c9
end G_LWc
section G_LWd
variable {p : Program} {l : Launch} {e : Env} {s : State} {m : MethodId} {args : Array Value} {below : List Frame} {meth : Method} {c : Code} {D : va_G} {cI cZ cT : ClassId}
set_option maxHeartbeats 8000000 in
set_option maxRecDepth 100000 in
theorem lc_pressing {G : q_G} {bs L : Nat} {xs : Nat → Int32} (J : JT) (hst : St_pressing J) {Q : State → Prop} (C0 : q_At p s m args meth c code 4 ret RL) (hK : va_K D vwCl (q_tys cI cZ cT) s) (hA : ∀ q, s.heap.size ≤ q → (fun q : Nat => s.heap.size ≤ q) q) (hE : q_E G (fun q : Nat => s.heap.size ≤ q) s) (hX : va_X bs L xs s s.heap) (hbl : bs < s.heap.size) (hbA : ¬ (fun q : Nat => s.heap.size ≤ q) bs) (k : Nat) (hk512 : k < 512) (hi1 : vp_in (nI (4 * k + 1)) L) (hi2 : vp_in (nI (4 * k + 2)) L) (hi3 : vp_in (nI (4 * k + 3)) L) {cells slots : Nat} (hc : cells ≤ room_1.cells) (hc2 : slots ≤ room_1.slots) (w sl o a : Nat) (hs hst_ : Nat) (ta ca : Nat → Nat) (pd sg nm mo : Nat) (b : Nat → Nat) (x0 x1 : Option (Nat × Nat × TT)) (t : TT) (hh : HH) (pp : PP) (mm : MM) (hJ : J k t hh pp (twn x0) (twn x1) mm)
    (kk : ∀ (t : TT) (hh : HH) (pp : PP) (x0 x1 : Option (Nat × Nat × TT)) (mm : MM), J (k + 1) t hh pp (twn x0) (twn x1) mm → ∀ (H : Heap) (locs : List Loc) (ls : Array Slot), va_P D vwCl (((wX w o hs pd sl) ++ (wT cI o a t) ++ (wH cI cT hs hst_ ta ca hh) ++ (wPd cI pd sg nm pp)) ++ (wSl cI cT sl x0 x1) ++ (wM cI cZ mo b mm)) H → va_D (fun q : Nat => s.heap.size ≤ q) (((wX w o hs pd sl) ++ (wT cI o a t) ++ (wH cI cT hs hst_ ta ca hh) ++ (wPd cI pd sg nm pp)) ++ (wSl cI cT sl x0 x1) ++ (wM cI cZ mo b mm)) → va_S (fun q : Nat => s.heap.size ≤ q) s.heap H locs → lv_has ls 4 [(0, .ref bs), (1, .ref w), (2, .ref mo), (3, .int (nI (4 * k)))] → W p l e room_1 s m args below meth c H locs cells slots Q (F0 m 904 ls []))
    (H : Heap) (locs : List Loc) (ls : Array Slot) (hP : va_P D vwCl (((wX w o hs pd sl) ++ (wT cI o a t) ++ (wH cI cT hs hst_ ta ca hh) ++ (wPd cI pd sg nm pp)) ++ (wSl cI cT sl x0 x1) ++ (wM cI cZ mo b mm)) H) (hD : va_D (fun q : Nat => s.heap.size ≤ q) (((wX w o hs pd sl) ++ (wT cI o a t) ++ (wH cI cT hs hst_ ta ca hh) ++ (wPd cI pd sg nm pp)) ++ (wSl cI cT sl x0 x1) ++ (wM cI cZ mo b mm))) (hS : va_S (fun q : Nat => s.heap.size ≤ q) s.heap H locs) (hl : lv_has ls 4 [(0, .ref bs), (1, .ref w), (2, .ref mo), (3, .int (nI (4 * k)))]) : W p l e room_1 s m args below meth c H locs cells slots Q (F0 m 526 ls []) := by
  obtain ⟨hx, hb, hr0, hml, hown, hts, hlocks⟩ := id C0
  have hF : CallFix p m c code 4 s args BW RL := ⟨hx, hb, hml, hown, hts⟩
  obtain ⟨y1, ey1⟩ : ∃ y, y = xs (nI (4 * k + 1)).toNatClampNeg := ⟨_, rfl⟩
  obtain ⟨y2, ey2⟩ : ∃ y, y = xs (nI (4 * k + 2)).toNatClampNeg := ⟨_, rfl⟩
  obtain ⟨y3, ey3⟩ : ∃ y, y = xs (nI (4 * k + 3)).toNatClampNeg := ⟨_, rfl⟩
  obtain ⟨r, hr, hz, hJ1⟩ := hst k t hh pp (twn x0) (twn x1) mm y1 hk512 hJ
  refine lv_aload_n hx hb dL_law_526 rfl (lv_at hl 1 rfl) ?_
  refine lv_aload_n hx hb dL_law_527 rfl (lv_at hl 0 rfl) ?_
  refine lv_iload_n hx hb dL_law_528 rfl (lv_at hl 3 rfl) ?_
  refine lv_iconst (v := 1) hx hb dL_law_529 (by decide) ?_
  refine lv_iadd hx hb dL_law_530 ?_
  rw [show nI (4 * k) + 1 = nI (4 * k + 1) from nI_add _ _]
  refine va_sld hx hb hX hbl hbA hS hi1 dL_law_531 ?_
  rw [← ey1]
  refine x_RV (As := [.int y1]) (rest := []) (wc := (wX w o hs pd sl) ++ (wT cI o a t) ++ (wH cI cT hs hst_ ta ca hh) ++ (wPd cI pd sg nm pp)) hF (c_X3_pressing l D cI cZ cT G (fun q : Nat => s.heap.size ≤ q) w sl o a t hs hst_ ta ca hh pd sg nm pp y1 r hr) (cwV 1 hts (gqV mw_703 mw_704 mw_705 mw_51 mw_368) rfl rfl rfl hd_X3_pressing ⟨Nat.le_of_ble_eq_true rfl, Nat.le_of_ble_eq_true rfl⟩) hK hP.left.left q_E_bl (q_E_go hE hS (fun _ h9 => h9)) (List.range 22) rfl rfl rfl rfl hl.1 rfl (Nat.le_of_ble_eq_true rfl) dL_law_532 ⟨hc, hc2⟩ ?_
  refine lv_aload_n hx hb dL_law_535 rfl (lv_at hl 2 rfl) ?_
  refine lv_aload_n hx hb dL_law_536 rfl (lv_at hl 0 rfl) ?_
  refine lv_iload_n hx hb dL_law_537 rfl (lv_at hl 3 rfl) ?_
  refine lv_iconst (v := 1) hx hb dL_law_538 (by decide) ?_
  refine lv_iadd hx hb dL_law_539 ?_
  rw [show nI (4 * k) + 1 = nI (4 * k + 1) from nI_add _ _]
  refine va_sld hx hb hX hbl hbA hS hi1 dL_law_540 ?_
  rw [← ey1]
  refine x_RV (As := [.int y1]) (rest := [.int r]) (wc := wS cI mo (wMf b mm) (b 0) mm.1) hF (c_X4_pressing l D cI cZ cT mo (wMf b mm) (b 0) rfl mm.1 y1 r hz) (cwV 1 hts (gqV mw_706 mw_707 mw_708 mw_428 mw_570) rfl rfl rfl hd_X4_pressing ⟨Nat.le_of_ble_eq_true rfl, Nat.le_of_ble_eq_true rfl⟩) hK hP.right q_T_bl (fun _ _ _ => trivial) ([0, 1]) rfl rfl rfl rfl hl.1 rfl (Nat.le_of_ble_eq_true rfl) dL_law_541 ⟨hc, hc2⟩ ?_
  refine lv_icmp_eq (tgt := 904) hx hb dL_law_544 (by decide) (fun c9 => ?_) (fun c9 => ?_)
  · exact kk _ _ _ _ _ _ hJ1 H locs ls hP hD hS hl
  · exact absurd rfl c9
set_option maxHeartbeats 8000000 in
set_option maxRecDepth 100000 in
theorem lc_insults {G : q_G} {bs L : Nat} {xs : Nat → Int32} (J : JT) (hst : St_insults J) {Q : State → Prop} (C0 : q_At p s m args meth c code 4 ret RL) (hK : va_K D vwCl (q_tys cI cZ cT) s) (hA : ∀ q, s.heap.size ≤ q → (fun q : Nat => s.heap.size ≤ q) q) (hE : q_E G (fun q : Nat => s.heap.size ≤ q) s) (hX : va_X bs L xs s s.heap) (hbl : bs < s.heap.size) (hbA : ¬ (fun q : Nat => s.heap.size ≤ q) bs) (k : Nat) (hk512 : k < 512) (hi1 : vp_in (nI (4 * k + 1)) L) (hi2 : vp_in (nI (4 * k + 2)) L) (hi3 : vp_in (nI (4 * k + 3)) L) {cells slots : Nat} (hc : cells ≤ room_1.cells) (hc2 : slots ≤ room_1.slots) (w sl o a : Nat) (hs hst_ : Nat) (ta ca : Nat → Nat) (pd sg nm mo : Nat) (b : Nat → Nat) (x0 x1 : Option (Nat × Nat × TT)) (t : TT) (hh : HH) (pp : PP) (mm : MM) (hJ : J k t hh pp (twn x0) (twn x1) mm)
    (kk : ∀ (t : TT) (hh : HH) (pp : PP) (x0 x1 : Option (Nat × Nat × TT)) (mm : MM), J (k + 1) t hh pp (twn x0) (twn x1) mm → ∀ (H : Heap) (locs : List Loc) (ls : Array Slot), va_P D vwCl (((wX w o hs pd sl) ++ (wT cI o a t) ++ (wH cI cT hs hst_ ta ca hh) ++ (wPd cI pd sg nm pp)) ++ (wSl cI cT sl x0 x1) ++ (wM cI cZ mo b mm)) H → va_D (fun q : Nat => s.heap.size ≤ q) (((wX w o hs pd sl) ++ (wT cI o a t) ++ (wH cI cT hs hst_ ta ca hh) ++ (wPd cI pd sg nm pp)) ++ (wSl cI cT sl x0 x1) ++ (wM cI cZ mo b mm)) → va_S (fun q : Nat => s.heap.size ≤ q) s.heap H locs → lv_has ls 4 [(0, .ref bs), (1, .ref w), (2, .ref mo), (3, .int (nI (4 * k)))] → W p l e room_1 s m args below meth c H locs cells slots Q (F0 m 904 ls []))
    (H : Heap) (locs : List Loc) (ls : Array Slot) (hP : va_P D vwCl (((wX w o hs pd sl) ++ (wT cI o a t) ++ (wH cI cT hs hst_ ta ca hh) ++ (wPd cI pd sg nm pp)) ++ (wSl cI cT sl x0 x1) ++ (wM cI cZ mo b mm)) H) (hD : va_D (fun q : Nat => s.heap.size ≤ q) (((wX w o hs pd sl) ++ (wT cI o a t) ++ (wH cI cT hs hst_ ta ca hh) ++ (wPd cI pd sg nm pp)) ++ (wSl cI cT sl x0 x1) ++ (wM cI cZ mo b mm))) (hS : va_S (fun q : Nat => s.heap.size ≤ q) s.heap H locs) (hl : lv_has ls 4 [(0, .ref bs), (1, .ref w), (2, .ref mo), (3, .int (nI (4 * k)))]) : W p l e room_1 s m args below meth c H locs cells slots Q (F0 m 549 ls []) := by
  obtain ⟨hx, hb, hr0, hml, hown, hts, hlocks⟩ := id C0
  have hF : CallFix p m c code 4 s args BW RL := ⟨hx, hb, hml, hown, hts⟩
  obtain ⟨y1, ey1⟩ : ∃ y, y = xs (nI (4 * k + 1)).toNatClampNeg := ⟨_, rfl⟩
  obtain ⟨y2, ey2⟩ : ∃ y, y = xs (nI (4 * k + 2)).toNatClampNeg := ⟨_, rfl⟩
  obtain ⟨y3, ey3⟩ : ∃ y, y = xs (nI (4 * k + 3)).toNatClampNeg := ⟨_, rfl⟩
  obtain ⟨r, hr, hz, hJ1⟩ := hst k t hh pp (twn x0) (twn x1) mm y1 hk512 hJ
  refine lv_aload_n hx hb dL_law_549 rfl (lv_at hl 1 rfl) ?_
  refine lv_aload_n hx hb dL_law_550 rfl (lv_at hl 0 rfl) ?_
  refine lv_iload_n hx hb dL_law_551 rfl (lv_at hl 3 rfl) ?_
  refine lv_iconst (v := 1) hx hb dL_law_552 (by decide) ?_
  refine lv_iadd hx hb dL_law_553 ?_
  rw [show nI (4 * k) + 1 = nI (4 * k + 1) from nI_add _ _]
  refine va_sld hx hb hX hbl hbA hS hi1 dL_law_554 ?_
  rw [← ey1]
  refine x_RV (As := [.int y1]) (rest := []) (wc := (wX w o hs pd sl) ++ (wT cI o a t) ++ (wH cI cT hs hst_ ta ca hh) ++ (wPd cI pd sg nm pp)) hF (c_X3_insults l D cI cZ cT G (fun q : Nat => s.heap.size ≤ q) w sl o a t hs hst_ ta ca hh pd sg nm pp y1 r hr) (cwV 1 hts (gqV mw_709 mw_710 mw_711 mw_51 mw_369) rfl rfl rfl hd_X3_insults ⟨Nat.le_of_ble_eq_true rfl, Nat.le_of_ble_eq_true rfl⟩) hK hP.left.left q_E_bl (q_E_go hE hS (fun _ h9 => h9)) (List.range 22) rfl rfl rfl rfl hl.1 rfl (Nat.le_of_ble_eq_true rfl) dL_law_555 ⟨hc, hc2⟩ ?_
  refine lv_aload_n hx hb dL_law_558 rfl (lv_at hl 2 rfl) ?_
  refine lv_aload_n hx hb dL_law_559 rfl (lv_at hl 0 rfl) ?_
  refine lv_iload_n hx hb dL_law_560 rfl (lv_at hl 3 rfl) ?_
  refine lv_iconst (v := 1) hx hb dL_law_561 (by decide) ?_
  refine lv_iadd hx hb dL_law_562 ?_
  rw [show nI (4 * k) + 1 = nI (4 * k + 1) from nI_add _ _]
  refine va_sld hx hb hX hbl hbA hS hi1 dL_law_563 ?_
  rw [← ey1]
  refine x_RV (As := [.int y1]) (rest := [.int r]) (wc := wS cI mo (wMf b mm) (b 0) mm.1) hF (c_X4_insults l D cI cZ cT mo (wMf b mm) (b 0) rfl mm.1 y1 r hz) (cwV 1 hts (gqV mw_712 mw_713 mw_714 mw_428 mw_574) rfl rfl rfl hd_X4_insults ⟨Nat.le_of_ble_eq_true rfl, Nat.le_of_ble_eq_true rfl⟩) hK hP.right q_T_bl (fun _ _ _ => trivial) ([0, 1]) rfl rfl rfl rfl hl.1 rfl (Nat.le_of_ble_eq_true rfl) dL_law_564 ⟨hc, hc2⟩ ?_
  refine lv_icmp_eq (tgt := 904) hx hb dL_law_567 (by decide) (fun c9 => ?_) (fun c9 => ?_)
  · exact kk _ _ _ _ _ _ hJ1 H locs ls hP hD hS hl
  · exact absurd rfl c9
set_option maxHeartbeats 8000000 in
set_option maxRecDepth 100000 in
theorem lc_count {G : q_G} {bs L : Nat} {xs : Nat → Int32} (J : JT) (hst : St_count J) {Q : State → Prop} (C0 : q_At p s m args meth c code 4 ret RL) (hK : va_K D vwCl (q_tys cI cZ cT) s) (hA : ∀ q, s.heap.size ≤ q → (fun q : Nat => s.heap.size ≤ q) q) (hE : q_E G (fun q : Nat => s.heap.size ≤ q) s) (hX : va_X bs L xs s s.heap) (hbl : bs < s.heap.size) (hbA : ¬ (fun q : Nat => s.heap.size ≤ q) bs) (k : Nat) (hk512 : k < 512) (hi1 : vp_in (nI (4 * k + 1)) L) (hi2 : vp_in (nI (4 * k + 2)) L) (hi3 : vp_in (nI (4 * k + 3)) L) {cells slots : Nat} (hc : cells ≤ room_1.cells) (hc2 : slots ≤ room_1.slots) (w sl o a : Nat) (hs hst_ : Nat) (ta ca : Nat → Nat) (pd sg nm mo : Nat) (b : Nat → Nat) (x0 x1 : Option (Nat × Nat × TT)) (t : TT) (hh : HH) (pp : PP) (mm : MM) (hJ : J k t hh pp (twn x0) (twn x1) mm)
    (kk : ∀ (t : TT) (hh : HH) (pp : PP) (x0 x1 : Option (Nat × Nat × TT)) (mm : MM), J (k + 1) t hh pp (twn x0) (twn x1) mm → ∀ (H : Heap) (locs : List Loc) (ls : Array Slot), va_P D vwCl (((wX w o hs pd sl) ++ (wT cI o a t) ++ (wH cI cT hs hst_ ta ca hh) ++ (wPd cI pd sg nm pp)) ++ (wSl cI cT sl x0 x1) ++ (wM cI cZ mo b mm)) H → va_D (fun q : Nat => s.heap.size ≤ q) (((wX w o hs pd sl) ++ (wT cI o a t) ++ (wH cI cT hs hst_ ta ca hh) ++ (wPd cI pd sg nm pp)) ++ (wSl cI cT sl x0 x1) ++ (wM cI cZ mo b mm)) → va_S (fun q : Nat => s.heap.size ≤ q) s.heap H locs → lv_has ls 4 [(0, .ref bs), (1, .ref w), (2, .ref mo), (3, .int (nI (4 * k)))] → W p l e room_1 s m args below meth c H locs cells slots Q (F0 m 904 ls []))
    (H : Heap) (locs : List Loc) (ls : Array Slot) (hP : va_P D vwCl (((wX w o hs pd sl) ++ (wT cI o a t) ++ (wH cI cT hs hst_ ta ca hh) ++ (wPd cI pd sg nm pp)) ++ (wSl cI cT sl x0 x1) ++ (wM cI cZ mo b mm)) H) (hD : va_D (fun q : Nat => s.heap.size ≤ q) (((wX w o hs pd sl) ++ (wT cI o a t) ++ (wH cI cT hs hst_ ta ca hh) ++ (wPd cI pd sg nm pp)) ++ (wSl cI cT sl x0 x1) ++ (wM cI cZ mo b mm))) (hS : va_S (fun q : Nat => s.heap.size ≤ q) s.heap H locs) (hl : lv_has ls 4 [(0, .ref bs), (1, .ref w), (2, .ref mo), (3, .int (nI (4 * k)))]) : W p l e room_1 s m args below meth c H locs cells slots Q (F0 m 572 ls []) := by
  obtain ⟨hx, hb, hr0, hml, hown, hts, hlocks⟩ := id C0
  have hF : CallFix p m c code 4 s args BW RL := ⟨hx, hb, hml, hown, hts⟩
  obtain ⟨y1, ey1⟩ : ∃ y, y = xs (nI (4 * k + 1)).toNatClampNeg := ⟨_, rfl⟩
  obtain ⟨y2, ey2⟩ : ∃ y, y = xs (nI (4 * k + 2)).toNatClampNeg := ⟨_, rfl⟩
  obtain ⟨y3, ey3⟩ : ∃ y, y = xs (nI (4 * k + 3)).toNatClampNeg := ⟨_, rfl⟩
  obtain ⟨r, hr, hz, hJ1⟩ := hst k t hh pp (twn x0) (twn x1) mm y1 hk512 hJ
  refine lv_aload_n hx hb dL_law_572 rfl (lv_at hl 1 rfl) ?_
  refine lv_aload_n hx hb dL_law_573 rfl (lv_at hl 0 rfl) ?_
  refine lv_iload_n hx hb dL_law_574 rfl (lv_at hl 3 rfl) ?_
  refine lv_iconst (v := 1) hx hb dL_law_575 (by decide) ?_
  refine lv_iadd hx hb dL_law_576 ?_
  rw [show nI (4 * k) + 1 = nI (4 * k + 1) from nI_add _ _]
  refine va_sld hx hb hX hbl hbA hS hi1 dL_law_577 ?_
  rw [← ey1]
  refine x_RV (As := [.int y1]) (rest := []) (wc := (wX w o hs pd sl) ++ (wT cI o a t) ++ (wH cI cT hs hst_ ta ca hh) ++ (wPd cI pd sg nm pp)) hF (c_X3_count l D cI cZ cT G (fun q : Nat => s.heap.size ≤ q) w sl o a t hs hst_ ta ca hh pd sg nm pp y1 r hr) (cwV 1 hts (gqV mw_715 mw_716 mw_717 mw_51 mw_374) rfl rfl rfl hd_X3_count ⟨Nat.le_of_ble_eq_true rfl, Nat.le_of_ble_eq_true rfl⟩) hK hP.left.left q_E_bl (q_E_go hE hS (fun _ h9 => h9)) (List.range 22) rfl rfl rfl rfl hl.1 rfl (Nat.le_of_ble_eq_true rfl) dL_law_578 ⟨hc, hc2⟩ ?_
  refine lv_aload_n hx hb dL_law_581 rfl (lv_at hl 2 rfl) ?_
  refine lv_aload_n hx hb dL_law_582 rfl (lv_at hl 0 rfl) ?_
  refine lv_iload_n hx hb dL_law_583 rfl (lv_at hl 3 rfl) ?_
  refine lv_iconst (v := 1) hx hb dL_law_584 (by decide) ?_
  refine lv_iadd hx hb dL_law_585 ?_
  rw [show nI (4 * k) + 1 = nI (4 * k + 1) from nI_add _ _]
  refine va_sld hx hb hX hbl hbA hS hi1 dL_law_586 ?_
  rw [← ey1]
  refine x_RV (As := [.int y1]) (rest := [.int r]) (wc := wM cI cZ mo b mm) hF (c_X4_count l D cI cZ cT mo b mm y1 r hz) (cwV 1 hts (gqV mw_718 mw_719 mw_720 mw_428 mw_580) rfl rfl rfl hd_X4_count ⟨Nat.le_of_ble_eq_true rfl, Nat.le_of_ble_eq_true rfl⟩) hK hP.right q_T_bl (fun _ _ _ => trivial) (List.range 7) rfl rfl rfl rfl hl.1 rfl (Nat.le_of_ble_eq_true rfl) dL_law_587 ⟨hc, hc2⟩ ?_
  refine lv_icmp_eq (tgt := 904) hx hb dL_law_590 (by decide) (fun c9 => ?_) (fun c9 => ?_)
  · exact kk _ _ _ _ _ _ hJ1 H locs ls hP hD hS hl
  · exact absurd rfl c9
set_option maxHeartbeats 8000000 in
set_option maxRecDepth 100000 in
theorem lc_why {G : q_G} {bs L : Nat} {xs : Nat → Int32} (J : JT) (hst : St_why J) {Q : State → Prop} (C0 : q_At p s m args meth c code 4 ret RL) (hK : va_K D vwCl (q_tys cI cZ cT) s) (hA : ∀ q, s.heap.size ≤ q → (fun q : Nat => s.heap.size ≤ q) q) (hE : q_E G (fun q : Nat => s.heap.size ≤ q) s) (hX : va_X bs L xs s s.heap) (hbl : bs < s.heap.size) (hbA : ¬ (fun q : Nat => s.heap.size ≤ q) bs) (k : Nat) (hk512 : k < 512) (hi1 : vp_in (nI (4 * k + 1)) L) (hi2 : vp_in (nI (4 * k + 2)) L) (hi3 : vp_in (nI (4 * k + 3)) L) {cells slots : Nat} (hc : cells ≤ room_1.cells) (hc2 : slots ≤ room_1.slots) (w sl o a : Nat) (hs hst_ : Nat) (ta ca : Nat → Nat) (pd sg nm mo : Nat) (b : Nat → Nat) (x0 x1 : Option (Nat × Nat × TT)) (t : TT) (hh : HH) (pp : PP) (mm : MM) (hJ : J k t hh pp (twn x0) (twn x1) mm)
    (kk : ∀ (t : TT) (hh : HH) (pp : PP) (x0 x1 : Option (Nat × Nat × TT)) (mm : MM), J (k + 1) t hh pp (twn x0) (twn x1) mm → ∀ (H : Heap) (locs : List Loc) (ls : Array Slot), va_P D vwCl (((wX w o hs pd sl) ++ (wT cI o a t) ++ (wH cI cT hs hst_ ta ca hh) ++ (wPd cI pd sg nm pp)) ++ (wSl cI cT sl x0 x1) ++ (wM cI cZ mo b mm)) H → va_D (fun q : Nat => s.heap.size ≤ q) (((wX w o hs pd sl) ++ (wT cI o a t) ++ (wH cI cT hs hst_ ta ca hh) ++ (wPd cI pd sg nm pp)) ++ (wSl cI cT sl x0 x1) ++ (wM cI cZ mo b mm)) → va_S (fun q : Nat => s.heap.size ≤ q) s.heap H locs → lv_has ls 4 [(0, .ref bs), (1, .ref w), (2, .ref mo), (3, .int (nI (4 * k)))] → W p l e room_1 s m args below meth c H locs cells slots Q (F0 m 904 ls []))
    (H : Heap) (locs : List Loc) (ls : Array Slot) (hP : va_P D vwCl (((wX w o hs pd sl) ++ (wT cI o a t) ++ (wH cI cT hs hst_ ta ca hh) ++ (wPd cI pd sg nm pp)) ++ (wSl cI cT sl x0 x1) ++ (wM cI cZ mo b mm)) H) (hD : va_D (fun q : Nat => s.heap.size ≤ q) (((wX w o hs pd sl) ++ (wT cI o a t) ++ (wH cI cT hs hst_ ta ca hh) ++ (wPd cI pd sg nm pp)) ++ (wSl cI cT sl x0 x1) ++ (wM cI cZ mo b mm))) (hS : va_S (fun q : Nat => s.heap.size ≤ q) s.heap H locs) (hl : lv_has ls 4 [(0, .ref bs), (1, .ref w), (2, .ref mo), (3, .int (nI (4 * k)))]) : W p l e room_1 s m args below meth c H locs cells slots Q (F0 m 595 ls []) := by
  obtain ⟨hx, hb, hr0, hml, hown, hts, hlocks⟩ := id C0
  have hF : CallFix p m c code 4 s args BW RL := ⟨hx, hb, hml, hown, hts⟩
  obtain ⟨y1, ey1⟩ : ∃ y, y = xs (nI (4 * k + 1)).toNatClampNeg := ⟨_, rfl⟩
  obtain ⟨y2, ey2⟩ : ∃ y, y = xs (nI (4 * k + 2)).toNatClampNeg := ⟨_, rfl⟩
  obtain ⟨y3, ey3⟩ : ∃ y, y = xs (nI (4 * k + 3)).toNatClampNeg := ⟨_, rfl⟩
  obtain ⟨r, hr, hz, hJ1⟩ := hst k t hh pp (twn x0) (twn x1) mm y1 hk512 hJ
  refine lv_aload_n hx hb dL_law_595 rfl (lv_at hl 1 rfl) ?_
  refine lv_aload_n hx hb dL_law_596 rfl (lv_at hl 0 rfl) ?_
  refine lv_iload_n hx hb dL_law_597 rfl (lv_at hl 3 rfl) ?_
  refine lv_iconst (v := 1) hx hb dL_law_598 (by decide) ?_
  refine lv_iadd hx hb dL_law_599 ?_
  rw [show nI (4 * k) + 1 = nI (4 * k + 1) from nI_add _ _]
  refine va_sld hx hb hX hbl hbA hS hi1 dL_law_600 ?_
  rw [← ey1]
  refine x_RV (As := [.int y1]) (rest := []) (wc := (wX w o hs pd sl) ++ (wT cI o a t) ++ (wH cI cT hs hst_ ta ca hh) ++ (wPd cI pd sg nm pp)) hF (c_X3_why l D cI cZ cT G (fun q : Nat => s.heap.size ≤ q) w sl o a t hs hst_ ta ca hh pd sg nm pp y1 r hr) (cwV 1 hts (gqV mw_721 mw_722 mw_723 mw_51 mw_375) rfl rfl rfl hd_X3_why ⟨Nat.le_of_ble_eq_true rfl, Nat.le_of_ble_eq_true rfl⟩) hK hP.left.left q_E_bl (q_E_go hE hS (fun _ h9 => h9)) (List.range 22) rfl rfl rfl rfl hl.1 rfl (Nat.le_of_ble_eq_true rfl) dL_law_601 ⟨hc, hc2⟩ ?_
  refine lv_aload_n hx hb dL_law_604 rfl (lv_at hl 2 rfl) ?_
  refine lv_aload_n hx hb dL_law_605 rfl (lv_at hl 0 rfl) ?_
  refine lv_iload_n hx hb dL_law_606 rfl (lv_at hl 3 rfl) ?_
  refine lv_iconst (v := 1) hx hb dL_law_607 (by decide) ?_
  refine lv_iadd hx hb dL_law_608 ?_
  rw [show nI (4 * k) + 1 = nI (4 * k + 1) from nI_add _ _]
  refine va_sld hx hb hX hbl hbA hS hi1 dL_law_609 ?_
  rw [← ey1]
  refine x_RV (As := [.int y1]) (rest := [.int r]) (wc := wS cI mo (wMf b mm) (b 0) mm.1) hF (c_X4_why l D cI cZ cT mo (wMf b mm) (b 0) rfl mm.1 y1 r hz) (cwV 1 hts (gqV mw_724 mw_725 mw_726 mw_428 mw_581) rfl rfl rfl hd_X4_why ⟨Nat.le_of_ble_eq_true rfl, Nat.le_of_ble_eq_true rfl⟩) hK hP.right q_T_bl (fun _ _ _ => trivial) ([0, 1]) rfl rfl rfl rfl hl.1 rfl (Nat.le_of_ble_eq_true rfl) dL_law_610 ⟨hc, hc2⟩ ?_
  refine lv_icmp_eq (tgt := 904) hx hb dL_law_613 (by decide) (fun c9 => ?_) (fun c9 => ?_)
  · exact kk _ _ _ _ _ _ hJ1 H locs ls hP hD hS hl
  · exact absurd rfl c9
set_option maxHeartbeats 8000000 in
set_option maxRecDepth 100000 in
theorem lc_firstWay {G : q_G} {bs L : Nat} {xs : Nat → Int32} (J : JT) (hst : St_firstWay J) {Q : State → Prop} (C0 : q_At p s m args meth c code 4 ret RL) (hK : va_K D vwCl (q_tys cI cZ cT) s) (hA : ∀ q, s.heap.size ≤ q → (fun q : Nat => s.heap.size ≤ q) q) (hE : q_E G (fun q : Nat => s.heap.size ≤ q) s) (hX : va_X bs L xs s s.heap) (hbl : bs < s.heap.size) (hbA : ¬ (fun q : Nat => s.heap.size ≤ q) bs) (k : Nat) (hk512 : k < 512) (hi1 : vp_in (nI (4 * k + 1)) L) (hi2 : vp_in (nI (4 * k + 2)) L) (hi3 : vp_in (nI (4 * k + 3)) L) {cells slots : Nat} (hc : cells ≤ room_1.cells) (hc2 : slots ≤ room_1.slots) (w sl o a : Nat) (hs hst_ : Nat) (ta ca : Nat → Nat) (pd sg nm mo : Nat) (b : Nat → Nat) (x0 x1 : Option (Nat × Nat × TT)) (t : TT) (hh : HH) (pp : PP) (mm : MM) (hJ : J k t hh pp (twn x0) (twn x1) mm)
    (kk : ∀ (t : TT) (hh : HH) (pp : PP) (x0 x1 : Option (Nat × Nat × TT)) (mm : MM), J (k + 1) t hh pp (twn x0) (twn x1) mm → ∀ (H : Heap) (locs : List Loc) (ls : Array Slot), va_P D vwCl (((wX w o hs pd sl) ++ (wT cI o a t) ++ (wH cI cT hs hst_ ta ca hh) ++ (wPd cI pd sg nm pp)) ++ (wSl cI cT sl x0 x1) ++ (wM cI cZ mo b mm)) H → va_D (fun q : Nat => s.heap.size ≤ q) (((wX w o hs pd sl) ++ (wT cI o a t) ++ (wH cI cT hs hst_ ta ca hh) ++ (wPd cI pd sg nm pp)) ++ (wSl cI cT sl x0 x1) ++ (wM cI cZ mo b mm)) → va_S (fun q : Nat => s.heap.size ≤ q) s.heap H locs → lv_has ls 4 [(0, .ref bs), (1, .ref w), (2, .ref mo), (3, .int (nI (4 * k)))] → W p l e room_1 s m args below meth c H locs cells slots Q (F0 m 904 ls []))
    (H : Heap) (locs : List Loc) (ls : Array Slot) (hP : va_P D vwCl (((wX w o hs pd sl) ++ (wT cI o a t) ++ (wH cI cT hs hst_ ta ca hh) ++ (wPd cI pd sg nm pp)) ++ (wSl cI cT sl x0 x1) ++ (wM cI cZ mo b mm)) H) (hD : va_D (fun q : Nat => s.heap.size ≤ q) (((wX w o hs pd sl) ++ (wT cI o a t) ++ (wH cI cT hs hst_ ta ca hh) ++ (wPd cI pd sg nm pp)) ++ (wSl cI cT sl x0 x1) ++ (wM cI cZ mo b mm))) (hS : va_S (fun q : Nat => s.heap.size ≤ q) s.heap H locs) (hl : lv_has ls 4 [(0, .ref bs), (1, .ref w), (2, .ref mo), (3, .int (nI (4 * k)))]) : W p l e room_1 s m args below meth c H locs cells slots Q (F0 m 618 ls []) := by
  obtain ⟨hx, hb, hr0, hml, hown, hts, hlocks⟩ := id C0
  have hF : CallFix p m c code 4 s args BW RL := ⟨hx, hb, hml, hown, hts⟩
  obtain ⟨y1, ey1⟩ : ∃ y, y = xs (nI (4 * k + 1)).toNatClampNeg := ⟨_, rfl⟩
  obtain ⟨y2, ey2⟩ : ∃ y, y = xs (nI (4 * k + 2)).toNatClampNeg := ⟨_, rfl⟩
  obtain ⟨y3, ey3⟩ : ∃ y, y = xs (nI (4 * k + 3)).toNatClampNeg := ⟨_, rfl⟩
  obtain ⟨r, hr, hz, hJ1⟩ := hst k t hh pp (twn x0) (twn x1) mm y1 hk512 hJ
  refine lv_aload_n hx hb dL_law_618 rfl (lv_at hl 1 rfl) ?_
  refine lv_aload_n hx hb dL_law_619 rfl (lv_at hl 0 rfl) ?_
  refine lv_iload_n hx hb dL_law_620 rfl (lv_at hl 3 rfl) ?_
  refine lv_iconst (v := 1) hx hb dL_law_621 (by decide) ?_
  refine lv_iadd hx hb dL_law_622 ?_
  rw [show nI (4 * k) + 1 = nI (4 * k + 1) from nI_add _ _]
  refine va_sld hx hb hX hbl hbA hS hi1 dL_law_623 ?_
  rw [← ey1]
  refine x_RV (As := [.int y1]) (rest := []) (wc := (wX w o hs pd sl) ++ (wT cI o a t) ++ (wH cI cT hs hst_ ta ca hh) ++ (wPd cI pd sg nm pp)) hF (c_X3_firstWay l D cI cZ cT G (fun q : Nat => s.heap.size ≤ q) w sl o a t hs hst_ ta ca hh pd sg nm pp y1 r hr) (cwV 1 hts (gqV mw_727 mw_728 mw_729 mw_51 mw_377) rfl rfl rfl hd_X3_firstWay ⟨Nat.le_of_ble_eq_true rfl, Nat.le_of_ble_eq_true rfl⟩) hK hP.left.left q_E_bl (q_E_go hE hS (fun _ h9 => h9)) (List.range 22) rfl rfl rfl rfl hl.1 rfl (Nat.le_of_ble_eq_true rfl) dL_law_624 ⟨hc, hc2⟩ ?_
  refine lv_aload_n hx hb dL_law_627 rfl (lv_at hl 2 rfl) ?_
  refine lv_aload_n hx hb dL_law_628 rfl (lv_at hl 0 rfl) ?_
  refine lv_iload_n hx hb dL_law_629 rfl (lv_at hl 3 rfl) ?_
  refine lv_iconst (v := 1) hx hb dL_law_630 (by decide) ?_
  refine lv_iadd hx hb dL_law_631 ?_
  rw [show nI (4 * k) + 1 = nI (4 * k + 1) from nI_add _ _]
  refine va_sld hx hb hX hbl hbA hS hi1 dL_law_632 ?_
  rw [← ey1]
  refine x_RV (As := [.int y1]) (rest := [.int r]) (wc := wS cI mo (wMf b mm) (b 0) mm.1) hF (c_X4_firstWay l D cI cZ cT mo (wMf b mm) (b 0) rfl mm.1 y1 r hz) (cwV 1 hts (gqV mw_730 mw_731 mw_732 mw_428 mw_582) rfl rfl rfl hd_X4_firstWay ⟨Nat.le_of_ble_eq_true rfl, Nat.le_of_ble_eq_true rfl⟩) hK hP.right q_T_bl (fun _ _ _ => trivial) ([0, 1]) rfl rfl rfl rfl hl.1 rfl (Nat.le_of_ble_eq_true rfl) dL_law_633 ⟨hc, hc2⟩ ?_
  refine lv_icmp_eq (tgt := 904) hx hb dL_law_636 (by decide) (fun c9 => ?_) (fun c9 => ?_)
  · exact kk _ _ _ _ _ _ hJ1 H locs ls hP hD hS hl
  · exact absurd rfl c9
end G_LWd
section G_LWe
variable {p : Program} {l : Launch} {e : Env} {s : State} {m : MethodId} {args : Array Value} {below : List Frame} {meth : Method} {c : Code} {D : va_G} {cI cZ cT : ClassId}
set_option maxHeartbeats 8000000 in
set_option maxRecDepth 100000 in
theorem lc_opensIn {G : q_G} {bs L : Nat} {xs : Nat → Int32} (J : JT) (hst : St_opensIn J) {Q : State → Prop} (C0 : q_At p s m args meth c code 4 ret RL) (hK : va_K D vwCl (q_tys cI cZ cT) s) (hA : ∀ q, s.heap.size ≤ q → (fun q : Nat => s.heap.size ≤ q) q) (hE : q_E G (fun q : Nat => s.heap.size ≤ q) s) (hX : va_X bs L xs s s.heap) (hbl : bs < s.heap.size) (hbA : ¬ (fun q : Nat => s.heap.size ≤ q) bs) (k : Nat) (hk512 : k < 512) (hi1 : vp_in (nI (4 * k + 1)) L) (hi2 : vp_in (nI (4 * k + 2)) L) (hi3 : vp_in (nI (4 * k + 3)) L) {cells slots : Nat} (hc : cells ≤ room_1.cells) (hc2 : slots ≤ room_1.slots) (w sl o a : Nat) (hs hst_ : Nat) (ta ca : Nat → Nat) (pd sg nm mo : Nat) (b : Nat → Nat) (x0 x1 : Option (Nat × Nat × TT)) (t : TT) (hh : HH) (pp : PP) (mm : MM) (hJ : J k t hh pp (twn x0) (twn x1) mm)
    (kk : ∀ (t : TT) (hh : HH) (pp : PP) (x0 x1 : Option (Nat × Nat × TT)) (mm : MM), J (k + 1) t hh pp (twn x0) (twn x1) mm → ∀ (H : Heap) (locs : List Loc) (ls : Array Slot), va_P D vwCl (((wX w o hs pd sl) ++ (wT cI o a t) ++ (wH cI cT hs hst_ ta ca hh) ++ (wPd cI pd sg nm pp)) ++ (wSl cI cT sl x0 x1) ++ (wM cI cZ mo b mm)) H → va_D (fun q : Nat => s.heap.size ≤ q) (((wX w o hs pd sl) ++ (wT cI o a t) ++ (wH cI cT hs hst_ ta ca hh) ++ (wPd cI pd sg nm pp)) ++ (wSl cI cT sl x0 x1) ++ (wM cI cZ mo b mm)) → va_S (fun q : Nat => s.heap.size ≤ q) s.heap H locs → lv_has ls 4 [(0, .ref bs), (1, .ref w), (2, .ref mo), (3, .int (nI (4 * k)))] → W p l e room_1 s m args below meth c H locs cells slots Q (F0 m 904 ls []))
    (H : Heap) (locs : List Loc) (ls : Array Slot) (hP : va_P D vwCl (((wX w o hs pd sl) ++ (wT cI o a t) ++ (wH cI cT hs hst_ ta ca hh) ++ (wPd cI pd sg nm pp)) ++ (wSl cI cT sl x0 x1) ++ (wM cI cZ mo b mm)) H) (hD : va_D (fun q : Nat => s.heap.size ≤ q) (((wX w o hs pd sl) ++ (wT cI o a t) ++ (wH cI cT hs hst_ ta ca hh) ++ (wPd cI pd sg nm pp)) ++ (wSl cI cT sl x0 x1) ++ (wM cI cZ mo b mm))) (hS : va_S (fun q : Nat => s.heap.size ≤ q) s.heap H locs) (hl : lv_has ls 4 [(0, .ref bs), (1, .ref w), (2, .ref mo), (3, .int (nI (4 * k)))]) : W p l e room_1 s m args below meth c H locs cells slots Q (F0 m 641 ls []) := by
  obtain ⟨hx, hb, hr0, hml, hown, hts, hlocks⟩ := id C0
  have hF : CallFix p m c code 4 s args BW RL := ⟨hx, hb, hml, hown, hts⟩
  obtain ⟨y1, ey1⟩ : ∃ y, y = xs (nI (4 * k + 1)).toNatClampNeg := ⟨_, rfl⟩
  obtain ⟨y2, ey2⟩ : ∃ y, y = xs (nI (4 * k + 2)).toNatClampNeg := ⟨_, rfl⟩
  obtain ⟨y3, ey3⟩ : ∃ y, y = xs (nI (4 * k + 3)).toNatClampNeg := ⟨_, rfl⟩
  obtain ⟨r, hr, hz, hJ1⟩ := hst k t hh pp (twn x0) (twn x1) mm y1 hk512 hJ
  refine lv_aload_n hx hb dL_law_641 rfl (lv_at hl 1 rfl) ?_
  refine lv_aload_n hx hb dL_law_642 rfl (lv_at hl 0 rfl) ?_
  refine lv_iload_n hx hb dL_law_643 rfl (lv_at hl 3 rfl) ?_
  refine lv_iconst (v := 1) hx hb dL_law_644 (by decide) ?_
  refine lv_iadd hx hb dL_law_645 ?_
  rw [show nI (4 * k) + 1 = nI (4 * k + 1) from nI_add _ _]
  refine va_sld hx hb hX hbl hbA hS hi1 dL_law_646 ?_
  rw [← ey1]
  refine x_RV (As := [.int y1]) (rest := []) (wc := (wX w o hs pd sl) ++ (wT cI o a t) ++ (wH cI cT hs hst_ ta ca hh) ++ (wPd cI pd sg nm pp)) hF (c_X3_opensIn l D cI cZ cT G (fun q : Nat => s.heap.size ≤ q) w sl o a t hs hst_ ta ca hh pd sg nm pp y1 r hr) (cwV 1 hts (gqV mw_733 mw_734 mw_735 mw_51 mw_380) rfl rfl rfl hd_X3_opensIn ⟨Nat.le_of_ble_eq_true rfl, Nat.le_of_ble_eq_true rfl⟩) hK hP.left.left q_E_bl (q_E_go hE hS (fun _ h9 => h9)) (List.range 22) rfl rfl rfl rfl hl.1 rfl (Nat.le_of_ble_eq_true rfl) dL_law_647 ⟨hc, hc2⟩ ?_
  refine lv_aload_n hx hb dL_law_650 rfl (lv_at hl 2 rfl) ?_
  refine lv_aload_n hx hb dL_law_651 rfl (lv_at hl 0 rfl) ?_
  refine lv_iload_n hx hb dL_law_652 rfl (lv_at hl 3 rfl) ?_
  refine lv_iconst (v := 1) hx hb dL_law_653 (by decide) ?_
  refine lv_iadd hx hb dL_law_654 ?_
  rw [show nI (4 * k) + 1 = nI (4 * k + 1) from nI_add _ _]
  refine va_sld hx hb hX hbl hbA hS hi1 dL_law_655 ?_
  rw [← ey1]
  refine x_RV (As := [.int y1]) (rest := [.int r]) (wc := wS cI mo (wMf b mm) (b 0) mm.1) hF (c_X4_opensIn l D cI cZ cT mo (wMf b mm) (b 0) rfl mm.1 y1 r hz) (cwV 1 hts (gqV mw_736 mw_737 mw_738 mw_428 mw_583) rfl rfl rfl hd_X4_opensIn ⟨Nat.le_of_ble_eq_true rfl, Nat.le_of_ble_eq_true rfl⟩) hK hP.right q_T_bl (fun _ _ _ => trivial) ([0, 1]) rfl rfl rfl rfl hl.1 rfl (Nat.le_of_ble_eq_true rfl) dL_law_656 ⟨hc, hc2⟩ ?_
  refine lv_icmp_eq (tgt := 904) hx hb dL_law_659 (by decide) (fun c9 => ?_) (fun c9 => ?_)
  · exact kk _ _ _ _ _ _ hJ1 H locs ls hP hD hS hl
  · exact absurd rfl c9
set_option maxHeartbeats 8000000 in
set_option maxRecDepth 100000 in
theorem lc_dueIn {G : q_G} {bs L : Nat} {xs : Nat → Int32} (J : JT) (hst : St_dueIn J) {Q : State → Prop} (C0 : q_At p s m args meth c code 4 ret RL) (hK : va_K D vwCl (q_tys cI cZ cT) s) (hA : ∀ q, s.heap.size ≤ q → (fun q : Nat => s.heap.size ≤ q) q) (hE : q_E G (fun q : Nat => s.heap.size ≤ q) s) (hX : va_X bs L xs s s.heap) (hbl : bs < s.heap.size) (hbA : ¬ (fun q : Nat => s.heap.size ≤ q) bs) (k : Nat) (hk512 : k < 512) (hi1 : vp_in (nI (4 * k + 1)) L) (hi2 : vp_in (nI (4 * k + 2)) L) (hi3 : vp_in (nI (4 * k + 3)) L) {cells slots : Nat} (hc : cells ≤ room_1.cells) (hc2 : slots ≤ room_1.slots) (w sl o a : Nat) (hs hst_ : Nat) (ta ca : Nat → Nat) (pd sg nm mo : Nat) (b : Nat → Nat) (x0 x1 : Option (Nat × Nat × TT)) (t : TT) (hh : HH) (pp : PP) (mm : MM) (hJ : J k t hh pp (twn x0) (twn x1) mm)
    (kk : ∀ (t : TT) (hh : HH) (pp : PP) (x0 x1 : Option (Nat × Nat × TT)) (mm : MM), J (k + 1) t hh pp (twn x0) (twn x1) mm → ∀ (H : Heap) (locs : List Loc) (ls : Array Slot), va_P D vwCl (((wX w o hs pd sl) ++ (wT cI o a t) ++ (wH cI cT hs hst_ ta ca hh) ++ (wPd cI pd sg nm pp)) ++ (wSl cI cT sl x0 x1) ++ (wM cI cZ mo b mm)) H → va_D (fun q : Nat => s.heap.size ≤ q) (((wX w o hs pd sl) ++ (wT cI o a t) ++ (wH cI cT hs hst_ ta ca hh) ++ (wPd cI pd sg nm pp)) ++ (wSl cI cT sl x0 x1) ++ (wM cI cZ mo b mm)) → va_S (fun q : Nat => s.heap.size ≤ q) s.heap H locs → lv_has ls 4 [(0, .ref bs), (1, .ref w), (2, .ref mo), (3, .int (nI (4 * k)))] → W p l e room_1 s m args below meth c H locs cells slots Q (F0 m 904 ls []))
    (H : Heap) (locs : List Loc) (ls : Array Slot) (hP : va_P D vwCl (((wX w o hs pd sl) ++ (wT cI o a t) ++ (wH cI cT hs hst_ ta ca hh) ++ (wPd cI pd sg nm pp)) ++ (wSl cI cT sl x0 x1) ++ (wM cI cZ mo b mm)) H) (hD : va_D (fun q : Nat => s.heap.size ≤ q) (((wX w o hs pd sl) ++ (wT cI o a t) ++ (wH cI cT hs hst_ ta ca hh) ++ (wPd cI pd sg nm pp)) ++ (wSl cI cT sl x0 x1) ++ (wM cI cZ mo b mm))) (hS : va_S (fun q : Nat => s.heap.size ≤ q) s.heap H locs) (hl : lv_has ls 4 [(0, .ref bs), (1, .ref w), (2, .ref mo), (3, .int (nI (4 * k)))]) : W p l e room_1 s m args below meth c H locs cells slots Q (F0 m 664 ls []) := by
  obtain ⟨hx, hb, hr0, hml, hown, hts, hlocks⟩ := id C0
  have hF : CallFix p m c code 4 s args BW RL := ⟨hx, hb, hml, hown, hts⟩
  obtain ⟨y1, ey1⟩ : ∃ y, y = xs (nI (4 * k + 1)).toNatClampNeg := ⟨_, rfl⟩
  obtain ⟨y2, ey2⟩ : ∃ y, y = xs (nI (4 * k + 2)).toNatClampNeg := ⟨_, rfl⟩
  obtain ⟨y3, ey3⟩ : ∃ y, y = xs (nI (4 * k + 3)).toNatClampNeg := ⟨_, rfl⟩
  obtain ⟨r, hr, hz, hJ1⟩ := hst k t hh pp (twn x0) (twn x1) mm y1 hk512 hJ
  refine lv_aload_n hx hb dL_law_664 rfl (lv_at hl 1 rfl) ?_
  refine lv_aload_n hx hb dL_law_665 rfl (lv_at hl 0 rfl) ?_
  refine lv_iload_n hx hb dL_law_666 rfl (lv_at hl 3 rfl) ?_
  refine lv_iconst (v := 1) hx hb dL_law_667 (by decide) ?_
  refine lv_iadd hx hb dL_law_668 ?_
  rw [show nI (4 * k) + 1 = nI (4 * k + 1) from nI_add _ _]
  refine va_sld hx hb hX hbl hbA hS hi1 dL_law_669 ?_
  rw [← ey1]
  refine x_RV (As := [.int y1]) (rest := []) (wc := (wX w o hs pd sl) ++ (wT cI o a t) ++ (wH cI cT hs hst_ ta ca hh) ++ (wPd cI pd sg nm pp)) hF (c_X3_dueIn l D cI cZ cT G (fun q : Nat => s.heap.size ≤ q) w sl o a t hs hst_ ta ca hh pd sg nm pp y1 r hr) (cwV 1 hts (gqV mw_739 mw_740 mw_741 mw_51 mw_383) rfl rfl rfl hd_X3_dueIn ⟨Nat.le_of_ble_eq_true rfl, Nat.le_of_ble_eq_true rfl⟩) hK hP.left.left q_E_bl (q_E_go hE hS (fun _ h9 => h9)) (List.range 22) rfl rfl rfl rfl hl.1 rfl (Nat.le_of_ble_eq_true rfl) dL_law_670 ⟨hc, hc2⟩ ?_
  refine lv_aload_n hx hb dL_law_673 rfl (lv_at hl 2 rfl) ?_
  refine lv_aload_n hx hb dL_law_674 rfl (lv_at hl 0 rfl) ?_
  refine lv_iload_n hx hb dL_law_675 rfl (lv_at hl 3 rfl) ?_
  refine lv_iconst (v := 1) hx hb dL_law_676 (by decide) ?_
  refine lv_iadd hx hb dL_law_677 ?_
  rw [show nI (4 * k) + 1 = nI (4 * k + 1) from nI_add _ _]
  refine va_sld hx hb hX hbl hbA hS hi1 dL_law_678 ?_
  rw [← ey1]
  refine x_RV (As := [.int y1]) (rest := [.int r]) (wc := wS cI mo (wMf b mm) (b 0) mm.1) hF (c_X4_dueIn l D cI cZ cT mo (wMf b mm) (b 0) rfl mm.1 y1 r hz) (cwV 1 hts (gqV mw_742 mw_743 mw_744 mw_428 mw_584) rfl rfl rfl hd_X4_dueIn ⟨Nat.le_of_ble_eq_true rfl, Nat.le_of_ble_eq_true rfl⟩) hK hP.right q_T_bl (fun _ _ _ => trivial) ([0, 1]) rfl rfl rfl rfl hl.1 rfl (Nat.le_of_ble_eq_true rfl) dL_law_679 ⟨hc, hc2⟩ ?_
  refine lv_icmp_eq (tgt := 904) hx hb dL_law_682 (by decide) (fun c9 => ?_) (fun c9 => ?_)
  · exact kk _ _ _ _ _ _ hJ1 H locs ls hP hD hS hl
  · exact absurd rfl c9
set_option maxHeartbeats 8000000 in
set_option maxRecDepth 100000 in
theorem lc_ifInsulted {G : q_G} {bs L : Nat} {xs : Nat → Int32} (J : JT) (hst : St_ifInsulted J) {Q : State → Prop} (C0 : q_At p s m args meth c code 4 ret RL) (hK : va_K D vwCl (q_tys cI cZ cT) s) (hA : ∀ q, s.heap.size ≤ q → (fun q : Nat => s.heap.size ≤ q) q) (hE : q_E G (fun q : Nat => s.heap.size ≤ q) s) (hX : va_X bs L xs s s.heap) (hbl : bs < s.heap.size) (hbA : ¬ (fun q : Nat => s.heap.size ≤ q) bs) (k : Nat) (hk512 : k < 512) (hi1 : vp_in (nI (4 * k + 1)) L) (hi2 : vp_in (nI (4 * k + 2)) L) (hi3 : vp_in (nI (4 * k + 3)) L) {cells slots : Nat} (hc : cells ≤ room_1.cells) (hc2 : slots ≤ room_1.slots) (w sl o a : Nat) (hs hst_ : Nat) (ta ca : Nat → Nat) (pd sg nm mo : Nat) (b : Nat → Nat) (x0 x1 : Option (Nat × Nat × TT)) (t : TT) (hh : HH) (pp : PP) (mm : MM) (hJ : J k t hh pp (twn x0) (twn x1) mm)
    (kk : ∀ (t : TT) (hh : HH) (pp : PP) (x0 x1 : Option (Nat × Nat × TT)) (mm : MM), J (k + 1) t hh pp (twn x0) (twn x1) mm → ∀ (H : Heap) (locs : List Loc) (ls : Array Slot), va_P D vwCl (((wX w o hs pd sl) ++ (wT cI o a t) ++ (wH cI cT hs hst_ ta ca hh) ++ (wPd cI pd sg nm pp)) ++ (wSl cI cT sl x0 x1) ++ (wM cI cZ mo b mm)) H → va_D (fun q : Nat => s.heap.size ≤ q) (((wX w o hs pd sl) ++ (wT cI o a t) ++ (wH cI cT hs hst_ ta ca hh) ++ (wPd cI pd sg nm pp)) ++ (wSl cI cT sl x0 x1) ++ (wM cI cZ mo b mm)) → va_S (fun q : Nat => s.heap.size ≤ q) s.heap H locs → lv_has ls 4 [(0, .ref bs), (1, .ref w), (2, .ref mo), (3, .int (nI (4 * k)))] → W p l e room_1 s m args below meth c H locs cells slots Q (F0 m 904 ls []))
    (H : Heap) (locs : List Loc) (ls : Array Slot) (hP : va_P D vwCl (((wX w o hs pd sl) ++ (wT cI o a t) ++ (wH cI cT hs hst_ ta ca hh) ++ (wPd cI pd sg nm pp)) ++ (wSl cI cT sl x0 x1) ++ (wM cI cZ mo b mm)) H) (hD : va_D (fun q : Nat => s.heap.size ≤ q) (((wX w o hs pd sl) ++ (wT cI o a t) ++ (wH cI cT hs hst_ ta ca hh) ++ (wPd cI pd sg nm pp)) ++ (wSl cI cT sl x0 x1) ++ (wM cI cZ mo b mm))) (hS : va_S (fun q : Nat => s.heap.size ≤ q) s.heap H locs) (hl : lv_has ls 4 [(0, .ref bs), (1, .ref w), (2, .ref mo), (3, .int (nI (4 * k)))]) : W p l e room_1 s m args below meth c H locs cells slots Q (F0 m 687 ls []) := by
  obtain ⟨hx, hb, hr0, hml, hown, hts, hlocks⟩ := id C0
  have hF : CallFix p m c code 4 s args BW RL := ⟨hx, hb, hml, hown, hts⟩
  obtain ⟨y1, ey1⟩ : ∃ y, y = xs (nI (4 * k + 1)).toNatClampNeg := ⟨_, rfl⟩
  obtain ⟨y2, ey2⟩ : ∃ y, y = xs (nI (4 * k + 2)).toNatClampNeg := ⟨_, rfl⟩
  obtain ⟨y3, ey3⟩ : ∃ y, y = xs (nI (4 * k + 3)).toNatClampNeg := ⟨_, rfl⟩
  obtain ⟨r, hr, hz, hJ1⟩ := hst k t hh pp (twn x0) (twn x1) mm y1 y2 y3 hk512 hJ
  refine lv_aload_n hx hb dL_law_687 rfl (lv_at hl 1 rfl) ?_
  refine lv_aload_n hx hb dL_law_688 rfl (lv_at hl 0 rfl) ?_
  refine lv_iload_n hx hb dL_law_689 rfl (lv_at hl 3 rfl) ?_
  refine lv_iconst (v := 1) hx hb dL_law_690 (by decide) ?_
  refine lv_iadd hx hb dL_law_691 ?_
  rw [show nI (4 * k) + 1 = nI (4 * k + 1) from nI_add _ _]
  refine va_sld hx hb hX hbl hbA hS hi1 dL_law_692 ?_
  rw [← ey1]
  refine lv_aload_n hx hb dL_law_693 rfl (lv_at hl 0 rfl) ?_
  refine lv_iload_n hx hb dL_law_694 rfl (lv_at hl 3 rfl) ?_
  refine lv_iconst (v := 2) hx hb dL_law_695 (by decide) ?_
  refine lv_iadd hx hb dL_law_696 ?_
  rw [show nI (4 * k) + 2 = nI (4 * k + 2) from nI_add _ _]
  refine va_sld hx hb hX hbl hbA hS hi2 dL_law_697 ?_
  rw [← ey2]
  refine lv_aload_n hx hb dL_law_698 rfl (lv_at hl 0 rfl) ?_
  refine lv_iload_n hx hb dL_law_699 rfl (lv_at hl 3 rfl) ?_
  refine lv_iconst (v := 3) hx hb dL_law_700 (by decide) ?_
  refine lv_iadd hx hb dL_law_701 ?_
  rw [show nI (4 * k) + 3 = nI (4 * k + 3) from nI_add _ _]
  refine va_sld hx hb hX hbl hbA hS hi3 dL_law_702 ?_
  rw [← ey3]
  refine x_RV (As := [.int y1, .int y2, .int y3]) (rest := []) (wc := (wX w o hs pd sl) ++ (wT cI o a t) ++ (wH cI cT hs hst_ ta ca hh) ++ (wPd cI pd sg nm pp)) hF (c_X3_ifInsulted l D cI cZ cT G (fun q : Nat => s.heap.size ≤ q) w sl o a t hs hst_ ta ca hh pd sg nm pp y1 y2 y3 r hr) (cwV 3 hts (gqV mw_745 mw_746 mw_747 mw_51 mw_384) rfl rfl rfl hd_X3_ifInsulted ⟨Nat.le_of_ble_eq_true rfl, Nat.le_of_ble_eq_true rfl⟩) hK hP.left.left q_E_bl (q_E_go hE hS (fun _ h9 => h9)) (List.range 22) rfl rfl rfl rfl hl.1 rfl (Nat.le_of_ble_eq_true rfl) dL_law_703 ⟨hc, hc2⟩ ?_
  refine lv_aload_n hx hb dL_law_706 rfl (lv_at hl 2 rfl) ?_
  refine lv_aload_n hx hb dL_law_707 rfl (lv_at hl 0 rfl) ?_
  refine lv_iload_n hx hb dL_law_708 rfl (lv_at hl 3 rfl) ?_
  refine lv_iconst (v := 1) hx hb dL_law_709 (by decide) ?_
  refine lv_iadd hx hb dL_law_710 ?_
  rw [show nI (4 * k) + 1 = nI (4 * k + 1) from nI_add _ _]
  refine va_sld hx hb hX hbl hbA hS hi1 dL_law_711 ?_
  rw [← ey1]
  refine lv_aload_n hx hb dL_law_712 rfl (lv_at hl 0 rfl) ?_
  refine lv_iload_n hx hb dL_law_713 rfl (lv_at hl 3 rfl) ?_
  refine lv_iconst (v := 2) hx hb dL_law_714 (by decide) ?_
  refine lv_iadd hx hb dL_law_715 ?_
  rw [show nI (4 * k) + 2 = nI (4 * k + 2) from nI_add _ _]
  refine va_sld hx hb hX hbl hbA hS hi2 dL_law_716 ?_
  rw [← ey2]
  refine lv_aload_n hx hb dL_law_717 rfl (lv_at hl 0 rfl) ?_
  refine lv_iload_n hx hb dL_law_718 rfl (lv_at hl 3 rfl) ?_
  refine lv_iconst (v := 3) hx hb dL_law_719 (by decide) ?_
  refine lv_iadd hx hb dL_law_720 ?_
  rw [show nI (4 * k) + 3 = nI (4 * k + 3) from nI_add _ _]
  refine va_sld hx hb hX hbl hbA hS hi3 dL_law_721 ?_
  rw [← ey3]
  refine x_RV (As := [.int y1, .int y2, .int y3]) (rest := [.int r]) (wc := wS cI mo (wMf b mm) (b 0) mm.1) hF (c_X4_ifInsulted l D cI cZ cT mo (wMf b mm) (b 0) rfl mm.1 y1 y2 y3 r hz) (cwV 3 hts (gqV mw_748 mw_749 mw_750 mw_428 mw_585) rfl rfl rfl hd_X4_ifInsulted ⟨Nat.le_of_ble_eq_true rfl, Nat.le_of_ble_eq_true rfl⟩) hK hP.right q_T_bl (fun _ _ _ => trivial) ([0, 1]) rfl rfl rfl rfl hl.1 rfl (Nat.le_of_ble_eq_true rfl) dL_law_722 ⟨hc, hc2⟩ ?_
  refine lv_icmp_eq (tgt := 904) hx hb dL_law_725 (by decide) (fun c9 => ?_) (fun c9 => ?_)
  · exact kk _ _ _ _ _ _ hJ1 H locs ls hP hD hS hl
  · exact absurd rfl c9
set_option maxHeartbeats 8000000 in
set_option maxRecDepth 100000 in
theorem lc_ifFought {G : q_G} {bs L : Nat} {xs : Nat → Int32} (J : JT) (hst : St_ifFought J) {Q : State → Prop} (C0 : q_At p s m args meth c code 4 ret RL) (hK : va_K D vwCl (q_tys cI cZ cT) s) (hA : ∀ q, s.heap.size ≤ q → (fun q : Nat => s.heap.size ≤ q) q) (hE : q_E G (fun q : Nat => s.heap.size ≤ q) s) (hX : va_X bs L xs s s.heap) (hbl : bs < s.heap.size) (hbA : ¬ (fun q : Nat => s.heap.size ≤ q) bs) (k : Nat) (hk512 : k < 512) (hi1 : vp_in (nI (4 * k + 1)) L) (hi2 : vp_in (nI (4 * k + 2)) L) (hi3 : vp_in (nI (4 * k + 3)) L) {cells slots : Nat} (hc : cells ≤ room_1.cells) (hc2 : slots ≤ room_1.slots) (w sl o a : Nat) (hs hst_ : Nat) (ta ca : Nat → Nat) (pd sg nm mo : Nat) (b : Nat → Nat) (x0 x1 : Option (Nat × Nat × TT)) (t : TT) (hh : HH) (pp : PP) (mm : MM) (hJ : J k t hh pp (twn x0) (twn x1) mm)
    (kk : ∀ (t : TT) (hh : HH) (pp : PP) (x0 x1 : Option (Nat × Nat × TT)) (mm : MM), J (k + 1) t hh pp (twn x0) (twn x1) mm → ∀ (H : Heap) (locs : List Loc) (ls : Array Slot), va_P D vwCl (((wX w o hs pd sl) ++ (wT cI o a t) ++ (wH cI cT hs hst_ ta ca hh) ++ (wPd cI pd sg nm pp)) ++ (wSl cI cT sl x0 x1) ++ (wM cI cZ mo b mm)) H → va_D (fun q : Nat => s.heap.size ≤ q) (((wX w o hs pd sl) ++ (wT cI o a t) ++ (wH cI cT hs hst_ ta ca hh) ++ (wPd cI pd sg nm pp)) ++ (wSl cI cT sl x0 x1) ++ (wM cI cZ mo b mm)) → va_S (fun q : Nat => s.heap.size ≤ q) s.heap H locs → lv_has ls 4 [(0, .ref bs), (1, .ref w), (2, .ref mo), (3, .int (nI (4 * k)))] → W p l e room_1 s m args below meth c H locs cells slots Q (F0 m 904 ls []))
    (H : Heap) (locs : List Loc) (ls : Array Slot) (hP : va_P D vwCl (((wX w o hs pd sl) ++ (wT cI o a t) ++ (wH cI cT hs hst_ ta ca hh) ++ (wPd cI pd sg nm pp)) ++ (wSl cI cT sl x0 x1) ++ (wM cI cZ mo b mm)) H) (hD : va_D (fun q : Nat => s.heap.size ≤ q) (((wX w o hs pd sl) ++ (wT cI o a t) ++ (wH cI cT hs hst_ ta ca hh) ++ (wPd cI pd sg nm pp)) ++ (wSl cI cT sl x0 x1) ++ (wM cI cZ mo b mm))) (hS : va_S (fun q : Nat => s.heap.size ≤ q) s.heap H locs) (hl : lv_has ls 4 [(0, .ref bs), (1, .ref w), (2, .ref mo), (3, .int (nI (4 * k)))]) : W p l e room_1 s m args below meth c H locs cells slots Q (F0 m 730 ls []) := by
  obtain ⟨hx, hb, hr0, hml, hown, hts, hlocks⟩ := id C0
  have hF : CallFix p m c code 4 s args BW RL := ⟨hx, hb, hml, hown, hts⟩
  obtain ⟨y1, ey1⟩ : ∃ y, y = xs (nI (4 * k + 1)).toNatClampNeg := ⟨_, rfl⟩
  obtain ⟨y2, ey2⟩ : ∃ y, y = xs (nI (4 * k + 2)).toNatClampNeg := ⟨_, rfl⟩
  obtain ⟨y3, ey3⟩ : ∃ y, y = xs (nI (4 * k + 3)).toNatClampNeg := ⟨_, rfl⟩
  obtain ⟨r, hr, hz, hJ1⟩ := hst k t hh pp (twn x0) (twn x1) mm y1 hk512 hJ
  refine lv_aload_n hx hb dL_law_730 rfl (lv_at hl 1 rfl) ?_
  refine lv_aload_n hx hb dL_law_731 rfl (lv_at hl 0 rfl) ?_
  refine lv_iload_n hx hb dL_law_732 rfl (lv_at hl 3 rfl) ?_
  refine lv_iconst (v := 1) hx hb dL_law_733 (by decide) ?_
  refine lv_iadd hx hb dL_law_734 ?_
  rw [show nI (4 * k) + 1 = nI (4 * k + 1) from nI_add _ _]
  refine va_sld hx hb hX hbl hbA hS hi1 dL_law_735 ?_
  rw [← ey1]
  refine x_RV (As := [.int y1]) (rest := []) (wc := (wX w o hs pd sl) ++ (wT cI o a t) ++ (wH cI cT hs hst_ ta ca hh) ++ (wPd cI pd sg nm pp)) hF (c_X3_ifFought l D cI cZ cT G (fun q : Nat => s.heap.size ≤ q) w sl o a t hs hst_ ta ca hh pd sg nm pp y1 r hr) (cwV 1 hts (gqV mw_751 mw_752 mw_753 mw_51 mw_385) rfl rfl rfl hd_X3_ifFought ⟨Nat.le_of_ble_eq_true rfl, Nat.le_of_ble_eq_true rfl⟩) hK hP.left.left q_E_bl (q_E_go hE hS (fun _ h9 => h9)) (List.range 22) rfl rfl rfl rfl hl.1 rfl (Nat.le_of_ble_eq_true rfl) dL_law_736 ⟨hc, hc2⟩ ?_
  refine lv_aload_n hx hb dL_law_739 rfl (lv_at hl 2 rfl) ?_
  refine lv_aload_n hx hb dL_law_740 rfl (lv_at hl 0 rfl) ?_
  refine lv_iload_n hx hb dL_law_741 rfl (lv_at hl 3 rfl) ?_
  refine lv_iconst (v := 1) hx hb dL_law_742 (by decide) ?_
  refine lv_iadd hx hb dL_law_743 ?_
  rw [show nI (4 * k) + 1 = nI (4 * k + 1) from nI_add _ _]
  refine va_sld hx hb hX hbl hbA hS hi1 dL_law_744 ?_
  rw [← ey1]
  refine x_RV (As := [.int y1]) (rest := [.int r]) (wc := wS cI mo (wMf b mm) (b 0) mm.1) hF (c_X4_ifFought l D cI cZ cT mo (wMf b mm) (b 0) rfl mm.1 y1 r hz) (cwV 1 hts (gqV mw_754 mw_755 mw_756 mw_428 mw_586) rfl rfl rfl hd_X4_ifFought ⟨Nat.le_of_ble_eq_true rfl, Nat.le_of_ble_eq_true rfl⟩) hK hP.right q_T_bl (fun _ _ _ => trivial) ([0, 1]) rfl rfl rfl rfl hl.1 rfl (Nat.le_of_ble_eq_true rfl) dL_law_745 ⟨hc, hc2⟩ ?_
  refine lv_icmp_eq (tgt := 904) hx hb dL_law_748 (by decide) (fun c9 => ?_) (fun c9 => ?_)
  · exact kk _ _ _ _ _ _ hJ1 H locs ls hP hD hS hl
  · exact absurd rfl c9
set_option maxHeartbeats 8000000 in
set_option maxRecDepth 100000 in
theorem lc_put {G : q_G} {bs L : Nat} {xs : Nat → Int32} (J : JT) (hst : St_put J) {Q : State → Prop} (C0 : q_At p s m args meth c code 4 ret RL) (hK : va_K D vwCl (q_tys cI cZ cT) s) (hA : ∀ q, s.heap.size ≤ q → (fun q : Nat => s.heap.size ≤ q) q) (hE : q_E G (fun q : Nat => s.heap.size ≤ q) s) (hX : va_X bs L xs s s.heap) (hbl : bs < s.heap.size) (hbA : ¬ (fun q : Nat => s.heap.size ≤ q) bs) (k : Nat) (hk512 : k < 512) (hi1 : vp_in (nI (4 * k + 1)) L) (hi2 : vp_in (nI (4 * k + 2)) L) (hi3 : vp_in (nI (4 * k + 3)) L) {cells slots : Nat} (hc : cells ≤ room_1.cells) (hc2 : slots ≤ room_1.slots) (w sl o a : Nat) (hs hst_ : Nat) (ta ca : Nat → Nat) (pd sg nm mo : Nat) (b : Nat → Nat) (x0 x1 : Option (Nat × Nat × TT)) (t : TT) (hh : HH) (pp : PP) (mm : MM) (hJ : J k t hh pp (twn x0) (twn x1) mm)
    (kk : ∀ (t : TT) (hh : HH) (pp : PP) (x0 x1 : Option (Nat × Nat × TT)) (mm : MM), J (k + 1) t hh pp (twn x0) (twn x1) mm → ∀ (H : Heap) (locs : List Loc) (ls : Array Slot), va_P D vwCl (((wX w o hs pd sl) ++ (wT cI o a t) ++ (wH cI cT hs hst_ ta ca hh) ++ (wPd cI pd sg nm pp)) ++ (wSl cI cT sl x0 x1) ++ (wM cI cZ mo b mm)) H → va_D (fun q : Nat => s.heap.size ≤ q) (((wX w o hs pd sl) ++ (wT cI o a t) ++ (wH cI cT hs hst_ ta ca hh) ++ (wPd cI pd sg nm pp)) ++ (wSl cI cT sl x0 x1) ++ (wM cI cZ mo b mm)) → va_S (fun q : Nat => s.heap.size ≤ q) s.heap H locs → lv_has ls 4 [(0, .ref bs), (1, .ref w), (2, .ref mo), (3, .int (nI (4 * k)))] → W p l e room_1 s m args below meth c H locs cells slots Q (F0 m 904 ls []))
    (H : Heap) (locs : List Loc) (ls : Array Slot) (hP : va_P D vwCl (((wX w o hs pd sl) ++ (wT cI o a t) ++ (wH cI cT hs hst_ ta ca hh) ++ (wPd cI pd sg nm pp)) ++ (wSl cI cT sl x0 x1) ++ (wM cI cZ mo b mm)) H) (hD : va_D (fun q : Nat => s.heap.size ≤ q) (((wX w o hs pd sl) ++ (wT cI o a t) ++ (wH cI cT hs hst_ ta ca hh) ++ (wPd cI pd sg nm pp)) ++ (wSl cI cT sl x0 x1) ++ (wM cI cZ mo b mm))) (hS : va_S (fun q : Nat => s.heap.size ≤ q) s.heap H locs) (hl : lv_has ls 4 [(0, .ref bs), (1, .ref w), (2, .ref mo), (3, .int (nI (4 * k)))]) : W p l e room_1 s m args below meth c H locs cells slots Q (F0 m 753 ls []) := by
  obtain ⟨hx, hb, hr0, hml, hown, hts, hlocks⟩ := id C0
  have hF : CallFix p m c code 4 s args BW RL := ⟨hx, hb, hml, hown, hts⟩
  obtain ⟨y1, ey1⟩ : ∃ y, y = xs (nI (4 * k + 1)).toNatClampNeg := ⟨_, rfl⟩
  obtain ⟨y2, ey2⟩ : ∃ y, y = xs (nI (4 * k + 2)).toNatClampNeg := ⟨_, rfl⟩
  obtain ⟨y3, ey3⟩ : ∃ y, y = xs (nI (4 * k + 3)).toNatClampNeg := ⟨_, rfl⟩
  obtain ⟨r, z, hr, hz, hv, hJ1⟩ := hst k t hh pp (twn x0) (twn x1) mm ((y1.toInt64 <<< ((32 : Int32).toInt64 &&& 63)) ||| (y2.toInt64 &&& (4294967295 : Int64))) hk512 hJ
  refine lv_aload_n hx hb dL_law_753 rfl (lv_at hl 1 rfl) ?_
  refine lv_aload_n hx hb dL_law_754 rfl (lv_at hl 0 rfl) ?_
  refine lv_iload_n hx hb dL_law_755 rfl (lv_at hl 3 rfl) ?_
  refine lv_iconst (v := 1) hx hb dL_law_756 (by decide) ?_
  refine lv_iadd hx hb dL_law_757 ?_
  rw [show nI (4 * k) + 1 = nI (4 * k + 1) from nI_add _ _]
  refine va_sld hx hb hX hbl hbA hS hi1 dL_law_758 ?_
  rw [← ey1]
  refine lv_i2l hx hb dL_law_759 rfl ?_
  refine lv_bipush (v := 32) hx hb dL_law_760 (by decide) ?_
  refine lv_lshl hx hb dL_law_762 rfl ?_
  refine lv_aload_n hx hb dL_law_763 rfl (lv_at hl 0 rfl) ?_
  refine lv_iload_n hx hb dL_law_764 rfl (lv_at hl 3 rfl) ?_
  refine lv_iconst (v := 2) hx hb dL_law_765 (by decide) ?_
  refine lv_iadd hx hb dL_law_766 ?_
  rw [show nI (4 * k) + 2 = nI (4 * k + 2) from nI_add _ _]
  refine va_sld hx hb hX hbl hbA hS hi2 dL_law_767 ?_
  rw [← ey2]
  refine lv_i2l hx hb dL_law_768 rfl ?_
  refine lv_ldc2 (v := 4294967295) hx hb hown (hts _ mw_626) dL_law_769 ?_
  refine lv_land hx hb dL_law_772 ?_
  refine lv_lor hx hb dL_law_773 ?_
  refine x_MVp (As := [.long ((y1.toInt64 <<< ((32 : Int32).toInt64 &&& 63)) ||| (y2.toInt64 &&& (4294967295 : Int64)))]) (rest := []) (wr := (wSl cI cT sl x0 x1) ++ (wM cI cZ mo b mm)) (W1 := ((wX w o hs pd sl) ++ (wT cI o a t) ++ (wH cI cT hs hst_ ta ca hh) ++ (wPd cI pd sg nm r.2)) ++ (wSl cI cT sl x0 x1) ++ (wM cI cZ mo b mm)) hF (c_X3_put l D cI cZ cT G _ w sl o a t hs hst_ ta ca hh pd sg nm pp ((y1.toInt64 <<< ((32 : Int32).toInt64 &&& 63)) ||| (y2.toInt64 &&& (4294967295 : Int64))) r hr) (cwV 1 hts (gqV mw_757 mw_758 mw_759 mw_51 mw_386) rfl rfl rfl hd_X3_put ⟨Nat.le_of_ble_eq_true rfl, Nat.le_of_ble_eq_true rfl⟩) hK hP hD hS hA q_E_bl (q_E_go hE hS (q_freep (p3_X ((wX w o hs pd sl) ++ (wT cI o a t) ++ (wH cI cT hs hst_ ta ca hh) ++ (wPd cI pd sg nm pp)) (wSl cI cT sl x0 x1) (wM cI cZ mo b mm)) hD hS hA)) (p3_X ((wX w o hs pd sl) ++ (wT cI o a t) ++ (wH cI cT hs hst_ ta ca hh) ++ (wPd cI pd sg nm pp)) (wSl cI cT sl x0 x1) (wM cI cZ mo b mm)) (p3_X ((wX w o hs pd sl) ++ (wT cI o a t) ++ (wH cI cT hs hst_ ta ca hh) ++ (wPd cI pd sg nm r.2)) (wSl cI cT sl x0 x1) (wM cI cZ mo b mm)).symm rfl rfl rfl hl.1 rfl (Nat.le_of_ble_eq_true rfl) dL_law_774 ⟨hc, hc2⟩ (fun H locs hP hD hS => ?_)
  refine lv_aload_n hx hb dL_law_777 rfl (lv_at hl 2 rfl) ?_
  refine lv_aload_n hx hb dL_law_778 rfl (lv_at hl 0 rfl) ?_
  refine lv_iload_n hx hb dL_law_779 rfl (lv_at hl 3 rfl) ?_
  refine lv_iconst (v := 1) hx hb dL_law_780 (by decide) ?_
  refine lv_iadd hx hb dL_law_781 ?_
  rw [show nI (4 * k) + 1 = nI (4 * k + 1) from nI_add _ _]
  refine va_sld hx hb hX hbl hbA hS hi1 dL_law_782 ?_
  rw [← ey1]
  refine lv_i2l hx hb dL_law_783 rfl ?_
  refine lv_bipush (v := 32) hx hb dL_law_784 (by decide) ?_
  refine lv_lshl hx hb dL_law_786 rfl ?_
  refine lv_aload_n hx hb dL_law_787 rfl (lv_at hl 0 rfl) ?_
  refine lv_iload_n hx hb dL_law_788 rfl (lv_at hl 3 rfl) ?_
  refine lv_iconst (v := 2) hx hb dL_law_789 (by decide) ?_
  refine lv_iadd hx hb dL_law_790 ?_
  rw [show nI (4 * k) + 2 = nI (4 * k + 2) from nI_add _ _]
  refine va_sld hx hb hX hbl hbA hS hi2 dL_law_791 ?_
  rw [← ey2]
  refine lv_i2l hx hb dL_law_792 rfl ?_
  refine lv_ldc2 (v := 4294967295) hx hb hown (hts _ mw_626) dL_law_793 ?_
  refine lv_land hx hb dL_law_796 ?_
  refine lv_lor hx hb dL_law_797 ?_
  refine x_MVp (As := [.long ((y1.toInt64 <<< ((32 : Int32).toInt64 &&& 63)) ||| (y2.toInt64 &&& (4294967295 : Int64)))]) (rest := [.int r.1]) (wr := ((wX w o hs pd sl) ++ (wT cI o a t) ++ (wH cI cT hs hst_ ta ca hh) ++ (wPd cI pd sg nm r.2)) ++ (wSl cI cT sl x0 x1)) (W1 := ((wX w o hs pd sl) ++ (wT cI o a t) ++ (wH cI cT hs hst_ ta ca hh) ++ (wPd cI pd sg nm r.2)) ++ (wSl cI cT sl x0 x1) ++ (wM cI cZ mo b z.2)) hF (c_X4_put l D cI cZ cT _ mo b mm ((y1.toInt64 <<< ((32 : Int32).toInt64 &&& 63)) ||| (y2.toInt64 &&& (4294967295 : Int64))) z hz) (cwV 1 hts (gqV mw_760 mw_761 mw_762 mw_428 mw_589) rfl rfl rfl hd_X4_put ⟨Nat.le_of_ble_eq_true rfl, Nat.le_of_ble_eq_true rfl⟩) hK hP hD hS hA q_T_bl (fun _ _ _ => (trivial : True)) (List.Perm.refl _) (List.Perm.refl _) rfl rfl rfl hl.1 rfl (Nat.le_of_ble_eq_true rfl) dL_law_798 ⟨hc, hc2⟩ (fun H locs hP hD hS => ?_)
  refine lv_icmp_eq (tgt := 904) hx hb dL_law_801 (by decide) (fun c9 => ?_) (fun c9 => ?_)
  · exact kk _ _ _ _ _ _ hJ1 H locs ls hP hD hS hl
  · exact absurd hv c9
end G_LWe
section G_LWf
variable {p : Program} {l : Launch} {e : Env} {s : State} {m : MethodId} {args : Array Value} {below : List Frame} {meth : Method} {c : Code} {D : va_G} {cI cZ cT : ClassId}
set_option maxHeartbeats 8000000 in
set_option maxRecDepth 100000 in
theorem lc_wipe {G : q_G} {bs L : Nat} {xs : Nat → Int32} (J : JT) (hst : St_wipe J) {Q : State → Prop} (C0 : q_At p s m args meth c code 4 ret RL) (hK : va_K D vwCl (q_tys cI cZ cT) s) (hA : ∀ q, s.heap.size ≤ q → (fun q : Nat => s.heap.size ≤ q) q) (hE : q_E G (fun q : Nat => s.heap.size ≤ q) s) (hX : va_X bs L xs s s.heap) (hbl : bs < s.heap.size) (hbA : ¬ (fun q : Nat => s.heap.size ≤ q) bs) (k : Nat) (hk512 : k < 512) (hi1 : vp_in (nI (4 * k + 1)) L) (hi2 : vp_in (nI (4 * k + 2)) L) (hi3 : vp_in (nI (4 * k + 3)) L) {cells slots : Nat} (hc : cells ≤ room_1.cells) (hc2 : slots ≤ room_1.slots) (w sl o a : Nat) (hs hst_ : Nat) (ta ca : Nat → Nat) (pd sg nm mo : Nat) (b : Nat → Nat) (x0 x1 : Option (Nat × Nat × TT)) (t : TT) (hh : HH) (pp : PP) (mm : MM) (hJ : J k t hh pp (twn x0) (twn x1) mm)
    (kk : ∀ (t : TT) (hh : HH) (pp : PP) (x0 x1 : Option (Nat × Nat × TT)) (mm : MM), J (k + 1) t hh pp (twn x0) (twn x1) mm → ∀ (H : Heap) (locs : List Loc) (ls : Array Slot), va_P D vwCl (((wX w o hs pd sl) ++ (wT cI o a t) ++ (wH cI cT hs hst_ ta ca hh) ++ (wPd cI pd sg nm pp)) ++ (wSl cI cT sl x0 x1) ++ (wM cI cZ mo b mm)) H → va_D (fun q : Nat => s.heap.size ≤ q) (((wX w o hs pd sl) ++ (wT cI o a t) ++ (wH cI cT hs hst_ ta ca hh) ++ (wPd cI pd sg nm pp)) ++ (wSl cI cT sl x0 x1) ++ (wM cI cZ mo b mm)) → va_S (fun q : Nat => s.heap.size ≤ q) s.heap H locs → lv_has ls 4 [(0, .ref bs), (1, .ref w), (2, .ref mo), (3, .int (nI (4 * k)))] → W p l e room_1 s m args below meth c H locs cells slots Q (F0 m 904 ls []))
    (H : Heap) (locs : List Loc) (ls : Array Slot) (hP : va_P D vwCl (((wX w o hs pd sl) ++ (wT cI o a t) ++ (wH cI cT hs hst_ ta ca hh) ++ (wPd cI pd sg nm pp)) ++ (wSl cI cT sl x0 x1) ++ (wM cI cZ mo b mm)) H) (hD : va_D (fun q : Nat => s.heap.size ≤ q) (((wX w o hs pd sl) ++ (wT cI o a t) ++ (wH cI cT hs hst_ ta ca hh) ++ (wPd cI pd sg nm pp)) ++ (wSl cI cT sl x0 x1) ++ (wM cI cZ mo b mm))) (hS : va_S (fun q : Nat => s.heap.size ≤ q) s.heap H locs) (hl : lv_has ls 4 [(0, .ref bs), (1, .ref w), (2, .ref mo), (3, .int (nI (4 * k)))]) : W p l e room_1 s m args below meth c H locs cells slots Q (F0 m 806 ls []) := by
  obtain ⟨hx, hb, hr0, hml, hown, hts, hlocks⟩ := id C0
  have hF : CallFix p m c code 4 s args BW RL := ⟨hx, hb, hml, hown, hts⟩
  obtain ⟨y1, ey1⟩ : ∃ y, y = xs (nI (4 * k + 1)).toNatClampNeg := ⟨_, rfl⟩
  obtain ⟨y2, ey2⟩ : ∃ y, y = xs (nI (4 * k + 2)).toNatClampNeg := ⟨_, rfl⟩
  obtain ⟨y3, ey3⟩ : ∃ y, y = xs (nI (4 * k + 3)).toNatClampNeg := ⟨_, rfl⟩
  obtain ⟨r, z, hr, hz, hv, hJ1⟩ := hst k t hh pp (twn x0) (twn x1) mm  hk512 hJ
  refine lv_aload_n hx hb dL_law_806 rfl (lv_at hl 1 rfl) ?_
  refine x_MVp (As := []) (rest := []) (wr := (wSl cI cT sl x0 x1) ++ (wM cI cZ mo b mm)) (W1 := ((wX w o hs pd sl) ++ (wT cI o a t) ++ (wH cI cT hs hst_ ta ca hh) ++ (wPd cI pd sg nm r.2)) ++ (wSl cI cT sl x0 x1) ++ (wM cI cZ mo b mm)) hF (c_X3_wipe l D cI cZ cT G _ w sl o a t hs hst_ ta ca hh pd sg nm pp  r hr) (cwV 0 hts (gqV mw_763 mw_764 mw_765 mw_51 mw_390) rfl rfl rfl hd_X3_wipe ⟨Nat.le_of_ble_eq_true rfl, Nat.le_of_ble_eq_true rfl⟩) hK hP hD hS hA q_E_bl (q_E_go hE hS (q_freep (p3_X ((wX w o hs pd sl) ++ (wT cI o a t) ++ (wH cI cT hs hst_ ta ca hh) ++ (wPd cI pd sg nm pp)) (wSl cI cT sl x0 x1) (wM cI cZ mo b mm)) hD hS hA)) (p3_X ((wX w o hs pd sl) ++ (wT cI o a t) ++ (wH cI cT hs hst_ ta ca hh) ++ (wPd cI pd sg nm pp)) (wSl cI cT sl x0 x1) (wM cI cZ mo b mm)) (p3_X ((wX w o hs pd sl) ++ (wT cI o a t) ++ (wH cI cT hs hst_ ta ca hh) ++ (wPd cI pd sg nm r.2)) (wSl cI cT sl x0 x1) (wM cI cZ mo b mm)).symm rfl rfl rfl hl.1 rfl (Nat.le_of_ble_eq_true rfl) dL_law_807 ⟨hc, hc2⟩ (fun H locs hP hD hS => ?_)
  refine lv_aload_n hx hb dL_law_810 rfl (lv_at hl 2 rfl) ?_
  refine x_MVp (As := []) (rest := [.int r.1]) (wr := ((wX w o hs pd sl) ++ (wT cI o a t) ++ (wH cI cT hs hst_ ta ca hh) ++ (wPd cI pd sg nm r.2)) ++ (wSl cI cT sl x0 x1)) (W1 := ((wX w o hs pd sl) ++ (wT cI o a t) ++ (wH cI cT hs hst_ ta ca hh) ++ (wPd cI pd sg nm r.2)) ++ (wSl cI cT sl x0 x1) ++ (wM cI cZ mo b z.2)) hF (c_X4_wipe l D cI cZ cT _ mo b mm  z hz) (cwV 0 hts (gqV mw_766 mw_767 mw_768 mw_428 mw_592) rfl rfl rfl hd_X4_wipe ⟨Nat.le_of_ble_eq_true rfl, Nat.le_of_ble_eq_true rfl⟩) hK hP hD hS hA q_T_bl (fun _ _ _ => (trivial : True)) (List.Perm.refl _) (List.Perm.refl _) rfl rfl rfl hl.1 rfl (Nat.le_of_ble_eq_true rfl) dL_law_811 ⟨hc, hc2⟩ (fun H locs hP hD hS => ?_)
  refine lv_icmp_eq (tgt := 904) hx hb dL_law_814 (by decide) (fun c9 => ?_) (fun c9 => ?_)
  · exact kk _ _ _ _ _ _ hJ1 H locs ls hP hD hS hl
  · exact absurd hv c9
set_option maxHeartbeats 8000000 in
set_option maxRecDepth 100000 in
theorem lc_fault {G : q_G} {bs L : Nat} {xs : Nat → Int32} (J : JT) (hst : St_fault J) {Q : State → Prop} (C0 : q_At p s m args meth c code 4 ret RL) (hK : va_K D vwCl (q_tys cI cZ cT) s) (hA : ∀ q, s.heap.size ≤ q → (fun q : Nat => s.heap.size ≤ q) q) (hE : q_E G (fun q : Nat => s.heap.size ≤ q) s) (hX : va_X bs L xs s s.heap) (hbl : bs < s.heap.size) (hbA : ¬ (fun q : Nat => s.heap.size ≤ q) bs) (k : Nat) (hk512 : k < 512) (hi1 : vp_in (nI (4 * k + 1)) L) (hi2 : vp_in (nI (4 * k + 2)) L) (hi3 : vp_in (nI (4 * k + 3)) L) {cells slots : Nat} (hc : cells ≤ room_1.cells) (hc2 : slots ≤ room_1.slots) (w sl o a : Nat) (hs hst_ : Nat) (ta ca : Nat → Nat) (pd sg nm mo : Nat) (b : Nat → Nat) (x0 x1 : Option (Nat × Nat × TT)) (t : TT) (hh : HH) (pp : PP) (mm : MM) (hJ : J k t hh pp (twn x0) (twn x1) mm)
    (kk : ∀ (t : TT) (hh : HH) (pp : PP) (x0 x1 : Option (Nat × Nat × TT)) (mm : MM), J (k + 1) t hh pp (twn x0) (twn x1) mm → ∀ (H : Heap) (locs : List Loc) (ls : Array Slot), va_P D vwCl (((wX w o hs pd sl) ++ (wT cI o a t) ++ (wH cI cT hs hst_ ta ca hh) ++ (wPd cI pd sg nm pp)) ++ (wSl cI cT sl x0 x1) ++ (wM cI cZ mo b mm)) H → va_D (fun q : Nat => s.heap.size ≤ q) (((wX w o hs pd sl) ++ (wT cI o a t) ++ (wH cI cT hs hst_ ta ca hh) ++ (wPd cI pd sg nm pp)) ++ (wSl cI cT sl x0 x1) ++ (wM cI cZ mo b mm)) → va_S (fun q : Nat => s.heap.size ≤ q) s.heap H locs → lv_has ls 4 [(0, .ref bs), (1, .ref w), (2, .ref mo), (3, .int (nI (4 * k)))] → W p l e room_1 s m args below meth c H locs cells slots Q (F0 m 904 ls []))
    (H : Heap) (locs : List Loc) (ls : Array Slot) (hP : va_P D vwCl (((wX w o hs pd sl) ++ (wT cI o a t) ++ (wH cI cT hs hst_ ta ca hh) ++ (wPd cI pd sg nm pp)) ++ (wSl cI cT sl x0 x1) ++ (wM cI cZ mo b mm)) H) (hD : va_D (fun q : Nat => s.heap.size ≤ q) (((wX w o hs pd sl) ++ (wT cI o a t) ++ (wH cI cT hs hst_ ta ca hh) ++ (wPd cI pd sg nm pp)) ++ (wSl cI cT sl x0 x1) ++ (wM cI cZ mo b mm))) (hS : va_S (fun q : Nat => s.heap.size ≤ q) s.heap H locs) (hl : lv_has ls 4 [(0, .ref bs), (1, .ref w), (2, .ref mo), (3, .int (nI (4 * k)))]) : W p l e room_1 s m args below meth c H locs cells slots Q (F0 m 819 ls []) := by
  obtain ⟨hx, hb, hr0, hml, hown, hts, hlocks⟩ := id C0
  have hF : CallFix p m c code 4 s args BW RL := ⟨hx, hb, hml, hown, hts⟩
  obtain ⟨y1, ey1⟩ : ∃ y, y = xs (nI (4 * k + 1)).toNatClampNeg := ⟨_, rfl⟩
  obtain ⟨y2, ey2⟩ : ∃ y, y = xs (nI (4 * k + 2)).toNatClampNeg := ⟨_, rfl⟩
  obtain ⟨y3, ey3⟩ : ∃ y, y = xs (nI (4 * k + 3)).toNatClampNeg := ⟨_, rfl⟩
  obtain ⟨r, z, hr, hz, hv, hJ1⟩ := hst k t hh pp (twn x0) (twn x1) mm  hk512 hJ
  refine lv_aload_n hx hb dL_law_819 rfl (lv_at hl 1 rfl) ?_
  refine x_MVp (As := []) (rest := []) (wr := (wSl cI cT sl x0 x1) ++ (wM cI cZ mo b mm)) (W1 := ((wX w o hs pd sl) ++ (wT cI o a t) ++ (wH cI cT hs hst_ ta ca hh) ++ (wPd cI pd sg nm r.2)) ++ (wSl cI cT sl x0 x1) ++ (wM cI cZ mo b mm)) hF (c_X3_fault l D cI cZ cT G _ w sl o a t hs hst_ ta ca hh pd sg nm pp  r hr) (cwV 0 hts (gqV mw_769 mw_770 mw_771 mw_51 mw_393) rfl rfl rfl hd_X3_fault ⟨Nat.le_of_ble_eq_true rfl, Nat.le_of_ble_eq_true rfl⟩) hK hP hD hS hA q_E_bl (q_E_go hE hS (q_freep (p3_X ((wX w o hs pd sl) ++ (wT cI o a t) ++ (wH cI cT hs hst_ ta ca hh) ++ (wPd cI pd sg nm pp)) (wSl cI cT sl x0 x1) (wM cI cZ mo b mm)) hD hS hA)) (p3_X ((wX w o hs pd sl) ++ (wT cI o a t) ++ (wH cI cT hs hst_ ta ca hh) ++ (wPd cI pd sg nm pp)) (wSl cI cT sl x0 x1) (wM cI cZ mo b mm)) (p3_X ((wX w o hs pd sl) ++ (wT cI o a t) ++ (wH cI cT hs hst_ ta ca hh) ++ (wPd cI pd sg nm r.2)) (wSl cI cT sl x0 x1) (wM cI cZ mo b mm)).symm rfl rfl rfl hl.1 rfl (Nat.le_of_ble_eq_true rfl) dL_law_820 ⟨hc, hc2⟩ (fun H locs hP hD hS => ?_)
  refine lv_aload_n hx hb dL_law_823 rfl (lv_at hl 2 rfl) ?_
  refine x_MVp (As := []) (rest := [.int r.1]) (wr := ((wX w o hs pd sl) ++ (wT cI o a t) ++ (wH cI cT hs hst_ ta ca hh) ++ (wPd cI pd sg nm r.2)) ++ (wSl cI cT sl x0 x1)) (W1 := ((wX w o hs pd sl) ++ (wT cI o a t) ++ (wH cI cT hs hst_ ta ca hh) ++ (wPd cI pd sg nm r.2)) ++ (wSl cI cT sl x0 x1) ++ (wM cI cZ mo b z.2)) hF (c_X4_fault l D cI cZ cT _ mo b mm  z hz) (cwV 0 hts (gqV mw_772 mw_773 mw_774 mw_428 mw_615) rfl rfl rfl hd_X4_fault ⟨Nat.le_of_ble_eq_true rfl, Nat.le_of_ble_eq_true rfl⟩) hK hP hD hS hA q_T_bl (fun _ _ _ => (trivial : True)) (List.Perm.refl _) (List.Perm.refl _) rfl rfl rfl hl.1 rfl (Nat.le_of_ble_eq_true rfl) dL_law_824 ⟨hc, hc2⟩ (fun H locs hP hD hS => ?_)
  refine lv_icmp_eq (tgt := 904) hx hb dL_law_827 (by decide) (fun c9 => ?_) (fun c9 => ?_)
  · exact kk _ _ _ _ _ _ hJ1 H locs ls hP hD hS hl
  · exact absurd hv c9
set_option maxHeartbeats 8000000 in
set_option maxRecDepth 100000 in
theorem lc_carryOut {G : q_G} {bs L : Nat} {xs : Nat → Int32} (J : JT) (hst : St_carryOut J) {Q : State → Prop} (C0 : q_At p s m args meth c code 4 ret RL) (hK : va_K D vwCl (q_tys cI cZ cT) s) (hA : ∀ q, s.heap.size ≤ q → (fun q : Nat => s.heap.size ≤ q) q) (hE : q_E G (fun q : Nat => s.heap.size ≤ q) s) (hX : va_X bs L xs s s.heap) (hbl : bs < s.heap.size) (hbA : ¬ (fun q : Nat => s.heap.size ≤ q) bs) (k : Nat) (hk512 : k < 512) (hi1 : vp_in (nI (4 * k + 1)) L) (hi2 : vp_in (nI (4 * k + 2)) L) (hi3 : vp_in (nI (4 * k + 3)) L) {cells slots : Nat} (hc : cells ≤ room_1.cells) (hc2 : slots ≤ room_1.slots) (w sl o a : Nat) (hs hst_ : Nat) (ta ca : Nat → Nat) (pd sg nm mo : Nat) (b : Nat → Nat) (x0 x1 : Option (Nat × Nat × TT)) (t : TT) (hh : HH) (pp : PP) (mm : MM) (hJ : J k t hh pp (twn x0) (twn x1) mm)
    (kk : ∀ (t : TT) (hh : HH) (pp : PP) (x0 x1 : Option (Nat × Nat × TT)) (mm : MM), J (k + 1) t hh pp (twn x0) (twn x1) mm → ∀ (H : Heap) (locs : List Loc) (ls : Array Slot), va_P D vwCl (((wX w o hs pd sl) ++ (wT cI o a t) ++ (wH cI cT hs hst_ ta ca hh) ++ (wPd cI pd sg nm pp)) ++ (wSl cI cT sl x0 x1) ++ (wM cI cZ mo b mm)) H → va_D (fun q : Nat => s.heap.size ≤ q) (((wX w o hs pd sl) ++ (wT cI o a t) ++ (wH cI cT hs hst_ ta ca hh) ++ (wPd cI pd sg nm pp)) ++ (wSl cI cT sl x0 x1) ++ (wM cI cZ mo b mm)) → va_S (fun q : Nat => s.heap.size ≤ q) s.heap H locs → lv_has ls 4 [(0, .ref bs), (1, .ref w), (2, .ref mo), (3, .int (nI (4 * k)))] → W p l e room_1 s m args below meth c H locs cells slots Q (F0 m 904 ls []))
    (H : Heap) (locs : List Loc) (ls : Array Slot) (hP : va_P D vwCl (((wX w o hs pd sl) ++ (wT cI o a t) ++ (wH cI cT hs hst_ ta ca hh) ++ (wPd cI pd sg nm pp)) ++ (wSl cI cT sl x0 x1) ++ (wM cI cZ mo b mm)) H) (hD : va_D (fun q : Nat => s.heap.size ≤ q) (((wX w o hs pd sl) ++ (wT cI o a t) ++ (wH cI cT hs hst_ ta ca hh) ++ (wPd cI pd sg nm pp)) ++ (wSl cI cT sl x0 x1) ++ (wM cI cZ mo b mm))) (hS : va_S (fun q : Nat => s.heap.size ≤ q) s.heap H locs) (hl : lv_has ls 4 [(0, .ref bs), (1, .ref w), (2, .ref mo), (3, .int (nI (4 * k)))]) : W p l e room_1 s m args below meth c H locs cells slots Q (F0 m 832 ls []) := by
  obtain ⟨hx, hb, hr0, hml, hown, hts, hlocks⟩ := id C0
  have hF : CallFix p m c code 4 s args BW RL := ⟨hx, hb, hml, hown, hts⟩
  obtain ⟨y1, ey1⟩ : ∃ y, y = xs (nI (4 * k + 1)).toNatClampNeg := ⟨_, rfl⟩
  obtain ⟨y2, ey2⟩ : ∃ y, y = xs (nI (4 * k + 2)).toNatClampNeg := ⟨_, rfl⟩
  obtain ⟨y3, ey3⟩ : ∃ y, y = xs (nI (4 * k + 3)).toNatClampNeg := ⟨_, rfl⟩
  obtain ⟨r, z, hr, hz, hv, hJ1⟩ := hst k t hh pp (twn x0) (twn x1) mm  hk512 hJ
  refine lv_aload_n hx hb dL_law_832 rfl (lv_at hl 1 rfl) ?_
  refine x_MVp (As := []) (rest := []) (wr := (wSl cI cT sl x0 x1) ++ (wM cI cZ mo b mm)) (W1 := ((wX w o hs pd sl) ++ (wT cI o a r.2.1) ++ (wH cI cT hs hst_ ta ca r.2.2.1) ++ (wPd cI pd sg nm r.2.2.2)) ++ (wSl cI cT sl x0 x1) ++ (wM cI cZ mo b mm)) hF (c_X3_carryOut l D cI cZ cT G _ w sl o a t hs hst_ ta ca hh pd sg nm pp  r hr) (cwV 0 hts (gqV mw_775 mw_776 mw_777 mw_51 mw_402) rfl rfl rfl hd_X3_carryOut ⟨Nat.le_of_ble_eq_true rfl, Nat.le_of_ble_eq_true rfl⟩) hK hP hD hS hA q_E_bl (q_E_go hE hS (q_freep (p3_X ((wX w o hs pd sl) ++ (wT cI o a t) ++ (wH cI cT hs hst_ ta ca hh) ++ (wPd cI pd sg nm pp)) (wSl cI cT sl x0 x1) (wM cI cZ mo b mm)) hD hS hA)) (p3_X ((wX w o hs pd sl) ++ (wT cI o a t) ++ (wH cI cT hs hst_ ta ca hh) ++ (wPd cI pd sg nm pp)) (wSl cI cT sl x0 x1) (wM cI cZ mo b mm)) (p3_X ((wX w o hs pd sl) ++ (wT cI o a r.2.1) ++ (wH cI cT hs hst_ ta ca r.2.2.1) ++ (wPd cI pd sg nm r.2.2.2)) (wSl cI cT sl x0 x1) (wM cI cZ mo b mm)).symm rfl rfl rfl hl.1 rfl (Nat.le_of_ble_eq_true rfl) dL_law_833 ⟨hc, hc2⟩ (fun H locs hP hD hS => ?_)
  refine lv_aload_n hx hb dL_law_836 rfl (lv_at hl 2 rfl) ?_
  refine x_MVp (As := []) (rest := [.int r.1]) (wr := ((wX w o hs pd sl) ++ (wT cI o a r.2.1) ++ (wH cI cT hs hst_ ta ca r.2.2.1) ++ (wPd cI pd sg nm r.2.2.2)) ++ (wSl cI cT sl x0 x1)) (W1 := ((wX w o hs pd sl) ++ (wT cI o a r.2.1) ++ (wH cI cT hs hst_ ta ca r.2.2.1) ++ (wPd cI pd sg nm r.2.2.2)) ++ (wSl cI cT sl x0 x1) ++ (wM cI cZ mo b z.2)) hF (c_X4_carryOut l D cI cZ cT _ mo b mm  z hz) (cwV 0 hts (gqV mw_778 mw_779 mw_780 mw_428 mw_616) rfl rfl rfl hd_X4_carryOut ⟨Nat.le_of_ble_eq_true rfl, Nat.le_of_ble_eq_true rfl⟩) hK hP hD hS hA q_T_bl (fun _ _ _ => (trivial : True)) (List.Perm.refl _) (List.Perm.refl _) rfl rfl rfl hl.1 rfl (Nat.le_of_ble_eq_true rfl) dL_law_837 ⟨hc, hc2⟩ (fun H locs hP hD hS => ?_)
  refine lv_icmp_eq (tgt := 904) hx hb dL_law_840 (by decide) (fun c9 => ?_) (fun c9 => ?_)
  · exact kk _ _ _ _ _ _ hJ1 H locs ls hP hD hS hl
  · exact absurd hv c9
set_option maxHeartbeats 8000000 in
set_option maxRecDepth 100000 in
theorem lc_undo {G : q_G} {bs L : Nat} {xs : Nat → Int32} (J : JT) (hst : St_undo J) {Q : State → Prop} (C0 : q_At p s m args meth c code 4 ret RL) (hK : va_K D vwCl (q_tys cI cZ cT) s) (hA : ∀ q, s.heap.size ≤ q → (fun q : Nat => s.heap.size ≤ q) q) (hE : q_E G (fun q : Nat => s.heap.size ≤ q) s) (hX : va_X bs L xs s s.heap) (hbl : bs < s.heap.size) (hbA : ¬ (fun q : Nat => s.heap.size ≤ q) bs) (k : Nat) (hk512 : k < 512) (hi1 : vp_in (nI (4 * k + 1)) L) (hi2 : vp_in (nI (4 * k + 2)) L) (hi3 : vp_in (nI (4 * k + 3)) L) {cells slots : Nat} (hc : cells ≤ room_1.cells) (hc2 : slots ≤ room_1.slots) (w sl o a : Nat) (hs hst_ : Nat) (ta ca : Nat → Nat) (pd sg nm mo : Nat) (b : Nat → Nat) (x0 x1 : Option (Nat × Nat × TT)) (t : TT) (hh : HH) (pp : PP) (mm : MM) (hJ : J k t hh pp (twn x0) (twn x1) mm)
    (kk : ∀ (t : TT) (hh : HH) (pp : PP) (x0 x1 : Option (Nat × Nat × TT)) (mm : MM), J (k + 1) t hh pp (twn x0) (twn x1) mm → ∀ (H : Heap) (locs : List Loc) (ls : Array Slot), va_P D vwCl (((wX w o hs pd sl) ++ (wT cI o a t) ++ (wH cI cT hs hst_ ta ca hh) ++ (wPd cI pd sg nm pp)) ++ (wSl cI cT sl x0 x1) ++ (wM cI cZ mo b mm)) H → va_D (fun q : Nat => s.heap.size ≤ q) (((wX w o hs pd sl) ++ (wT cI o a t) ++ (wH cI cT hs hst_ ta ca hh) ++ (wPd cI pd sg nm pp)) ++ (wSl cI cT sl x0 x1) ++ (wM cI cZ mo b mm)) → va_S (fun q : Nat => s.heap.size ≤ q) s.heap H locs → lv_has ls 4 [(0, .ref bs), (1, .ref w), (2, .ref mo), (3, .int (nI (4 * k)))] → W p l e room_1 s m args below meth c H locs cells slots Q (F0 m 904 ls []))
    (H : Heap) (locs : List Loc) (ls : Array Slot) (hP : va_P D vwCl (((wX w o hs pd sl) ++ (wT cI o a t) ++ (wH cI cT hs hst_ ta ca hh) ++ (wPd cI pd sg nm pp)) ++ (wSl cI cT sl x0 x1) ++ (wM cI cZ mo b mm)) H) (hD : va_D (fun q : Nat => s.heap.size ≤ q) (((wX w o hs pd sl) ++ (wT cI o a t) ++ (wH cI cT hs hst_ ta ca hh) ++ (wPd cI pd sg nm pp)) ++ (wSl cI cT sl x0 x1) ++ (wM cI cZ mo b mm))) (hS : va_S (fun q : Nat => s.heap.size ≤ q) s.heap H locs) (hl : lv_has ls 4 [(0, .ref bs), (1, .ref w), (2, .ref mo), (3, .int (nI (4 * k)))]) : W p l e room_1 s m args below meth c H locs cells slots Q (F0 m 845 ls []) := by
  obtain ⟨hx, hb, hr0, hml, hown, hts, hlocks⟩ := id C0
  have hF : CallFix p m c code 4 s args BW RL := ⟨hx, hb, hml, hown, hts⟩
  obtain ⟨y1, ey1⟩ : ∃ y, y = xs (nI (4 * k + 1)).toNatClampNeg := ⟨_, rfl⟩
  obtain ⟨y2, ey2⟩ : ∃ y, y = xs (nI (4 * k + 2)).toNatClampNeg := ⟨_, rfl⟩
  obtain ⟨y3, ey3⟩ : ∃ y, y = xs (nI (4 * k + 3)).toNatClampNeg := ⟨_, rfl⟩
  obtain ⟨r, z, hr, hz, hv, hJ1⟩ := hst k t hh pp (twn x0) (twn x1) mm  hk512 hJ
  refine lv_aload_n hx hb dL_law_845 rfl (lv_at hl 1 rfl) ?_
  refine x_MVp (As := []) (rest := []) (wr := (wSl cI cT sl x0 x1) ++ (wM cI cZ mo b mm)) (W1 := ((wX w o hs pd sl) ++ (wT cI o a r.2.1) ++ (wH cI cT hs hst_ ta ca r.2.2) ++ (wPd cI pd sg nm pp)) ++ (wSl cI cT sl x0 x1) ++ (wM cI cZ mo b mm)) hF (c_X3_undo l D cI cZ cT G _ w sl o a t hs hst_ ta ca hh pd sg nm pp  r hr) (cwV 0 hts (gqV mw_781 mw_782 mw_783 mw_51 mw_405) rfl rfl rfl hd_X3_undo ⟨Nat.le_of_ble_eq_true rfl, Nat.le_of_ble_eq_true rfl⟩) hK hP hD hS hA q_E_bl (q_E_go hE hS (q_freep (p3_X ((wX w o hs pd sl) ++ (wT cI o a t) ++ (wH cI cT hs hst_ ta ca hh) ++ (wPd cI pd sg nm pp)) (wSl cI cT sl x0 x1) (wM cI cZ mo b mm)) hD hS hA)) (p3_X ((wX w o hs pd sl) ++ (wT cI o a t) ++ (wH cI cT hs hst_ ta ca hh) ++ (wPd cI pd sg nm pp)) (wSl cI cT sl x0 x1) (wM cI cZ mo b mm)) (p3_X ((wX w o hs pd sl) ++ (wT cI o a r.2.1) ++ (wH cI cT hs hst_ ta ca r.2.2) ++ (wPd cI pd sg nm pp)) (wSl cI cT sl x0 x1) (wM cI cZ mo b mm)).symm rfl rfl rfl hl.1 rfl (Nat.le_of_ble_eq_true rfl) dL_law_846 ⟨hc, hc2⟩ (fun H locs hP hD hS => ?_)
  refine lv_aload_n hx hb dL_law_849 rfl (lv_at hl 2 rfl) ?_
  refine x_MVp (As := []) (rest := [.int r.1]) (wr := ((wX w o hs pd sl) ++ (wT cI o a r.2.1) ++ (wH cI cT hs hst_ ta ca r.2.2) ++ (wPd cI pd sg nm pp)) ++ (wSl cI cT sl x0 x1)) (W1 := ((wX w o hs pd sl) ++ (wT cI o a r.2.1) ++ (wH cI cT hs hst_ ta ca r.2.2) ++ (wPd cI pd sg nm pp)) ++ (wSl cI cT sl x0 x1) ++ (wM cI cZ mo b z.2)) hF (c_X4_undo l D cI cZ cT _ mo b mm  z hz) (cwV 0 hts (gqV mw_784 mw_785 mw_786 mw_428 mw_617) rfl rfl rfl hd_X4_undo ⟨Nat.le_of_ble_eq_true rfl, Nat.le_of_ble_eq_true rfl⟩) hK hP hD hS hA q_T_bl (fun _ _ _ => (trivial : True)) (List.Perm.refl _) (List.Perm.refl _) rfl rfl rfl hl.1 rfl (Nat.le_of_ble_eq_true rfl) dL_law_850 ⟨hc, hc2⟩ (fun H locs hP hD hS => ?_)
  refine lv_icmp_eq (tgt := 904) hx hb dL_law_853 (by decide) (fun c9 => ?_) (fun c9 => ?_)
  · exact kk _ _ _ _ _ _ hJ1 H locs ls hP hD hS hl
  · exact absurd hv c9
end G_LWf
section G_LX
variable {p : Program} {l : Launch} {e : Env} {s : State} {m : MethodId} {args : Array Value} {below : List Frame} {meth : Method} {c : Code} {D : va_G} {cI cZ cT : ClassId}

/-- a writing call whose world behind it has names of its own -/
theorem x_MGp {R : Room} {H : Heap} {locs : List Loc} {cells slots pc : Nat} {Q : State → Prop} {cc : ByteArray} {ls : Array Slot} {rest st0 As : List Value} {A : Nat → Prop} {tys : List (ClassId × FieldType)} {W0 wc wr : va_W} {H0 : Heap} {own C : String} {index nL n maxL ci b9 mc ms : Nat} {y : MethodName} {bytes : ByteArray} {ret9 : Option FieldType} {w9 Ts : List Cond} {rm : Room} {v : Int32} {fs : List Value} {T : u_T} {N : Nat} {E : State → Prop} {S9 : Type} {w1 : S9 → va_W}
    (S : CallFix p m c cc nL s args Ts own) (hM : Met l y w9 rm (q_M D tys H.size wc E (.ref b9 :: As)) (va_Qi (fun r' (_ : S9) => r' = v) (fun (u : S9) t9 => va_P D vwCl (w1 u) t9.heap ∧ va_D (va_A wc H.size) (w1 u)) (va_A wc H.size)) mc ms (va_A wc H.size)) (cw : CallW R s args own C index y bytes maxL ret9 w9 rm mc ms n) (hK : va_K D vwCl tys s) (hP : va_P D vwCl W0 H) (hD : va_D A W0) (hS : va_S A H0 H locs) (hA : ∀ q, H0.size ≤ q → A q) (hEb : q_Bl E) (hE : ∀ U : State, U.heap = H → s.WarmedH U.vm → E U)
    (hs : W0.Perm (wr ++ wc)) (h0 : wc[0]? = some (b9, .inr (ci, fs))) (hc : vwCl[ci]? = some (C, T, N))
    (hn : As.length = n) (hl : ls.size = nL) (hst : st0 = As.reverse ++ .ref b9 :: rest) (hW : (rest.map fun v => v.category).sum ≤ 8) (hdg : decode cc pc = .ok (.invokevirtual index, 3)) (hf : cells + mc ≤ R.cells ∧ slots + ms ≤ R.slots)
    (kk : ∀ (u : S9) (H1 : Heap) (locs1 : List Loc), va_P D vwCl (wr ++ w1 u) H1 → va_D A (wr ++ w1 u) → va_S A H0 H1 locs1 → W p l e R s m args below meth c H1 locs1 (cells + mc) (slots + ms) Q (F0 m (pc + 3) ls (.int v :: rest))) : W p l e R s m args below meth c H locs cells slots Q (F0 m pc ls st0) := by
  have hPs := hP.perm hs
  have hDs := hD.perm hs
  have hPc : va_P D vwCl wc H := hPs.right
  have hDc : va_D A wc := hDs.right
  have hFc := q_freep hs hD hS hA
  refine va_calli (va_runV (g := F0 m pc ls st0) S hM cw ⟨q_M_blind hEb, va_recv hK hPc hc h0, fun U hU hW => ⟨rfl, by rw [hU], by rw [hU]; exact hPc, va_K.moved hW.alike hK, hDc.weaken (fun _ _ _ _ => trivial), hE U hU hW⟩⟩ rfl hn hl hst (lv_room hW) hdg hf) hS (fun q _ h => hFc q h) hFc (fun r u t H1 locs1 ht hvm hw hB hz1 hk1 hS1 => ?_)
  obtain ⟨hP1, hD1⟩ := hB
  rw [ht] at hP1
  obtain ⟨hP2, hD2⟩ := va_joinp hPs hDs hk1 hFc hP1 hD1
  rw [hw]
  exact kk u H1 locs1 hP2 hD2 hS1
theorem sq0s (a b c d e : va_W) : (a ++ (b ++ c ++ d) ++ e).Perm (e ++ (a ++ b ++ c ++ d)) := by
  refine pmc (fun k h => ?_)
  simp only [List.append_nil, List.nil_append, h]
  omega
theorem sq0n (a b d e : va_W) : (a ++ (b ++ [] ++ d) ++ e).Perm (e ++ (a ++ b ++ d)) := by
  refine pmc (fun k h => ?_)
  simp only [List.append_nil, List.nil_append, h]
  omega
theorem sq1s (a b c d e : va_W) : (a ++ (b ++ d ++ c) ++ e).Perm (e ++ (a ++ b ++ c ++ d)) := by
  refine pmc (fun k h => ?_)
  simp only [List.append_nil, List.nil_append, h]
  omega
theorem sq1n (a b d e : va_W) : (a ++ (b ++ d ++ []) ++ e).Perm (e ++ (a ++ b ++ d)) := by
  refine pmc (fun k h => ?_)
  simp only [List.append_nil, List.nil_append, h]
  omega
theorem sqb (a b c d e : va_W) : (a ++ (b ++ c ++ d) ++ e).Perm (e ++ (a ++ b ++ (c ++ d))) := by
  refine pmc (fun k h => ?_)
  simp only [List.append_nil, List.nil_append, h]
  omega
set_option maxHeartbeats 8000000 in
set_option maxRecDepth 100000 in
theorem lc_save {G : q_G} {bs L : Nat} {xs : Nat → Int32} (J : JT) (hst : St_save J) {Q : State → Prop} (C0 : q_At p s m args meth c code 4 ret RL) (hK : va_K D vwCl (q_tys cI cZ cT) s) (hA : ∀ q, s.heap.size ≤ q → (fun q : Nat => s.heap.size ≤ q) q) (hE : q_E G (fun q : Nat => s.heap.size ≤ q) s) (hX : va_X bs L xs s s.heap) (hbl : bs < s.heap.size) (hbA : ¬ (fun q : Nat => s.heap.size ≤ q) bs) (k : Nat) (hk512 : k < 512) (hi1 : vp_in (nI (4 * k + 1)) L) {cells slots : Nat} (hc : cells + 2 ≤ room_1.cells) (hc2 : slots + 182 ≤ room_1.slots) (w sl o a : Nat) (hs hst_ : Nat) (ta ca : Nat → Nat) (pd sg nm mo : Nat) (b : Nat → Nat) (x0 x1 : Option (Nat × Nat × TT)) (t : TT) (hh : HH) (pp : PP) (mm : MM) (hJ : J k t hh pp (twn x0) (twn x1) mm)
    (kk : ∀ (t : TT) (hh : HH) (pp : PP) (x0 x1 : Option (Nat × Nat × TT)) (mm : MM), J (k + 1) t hh pp (twn x0) (twn x1) mm → ∀ (H : Heap) (locs : List Loc) (ls : Array Slot), va_P D vwCl (((wX w o hs pd sl) ++ (wT cI o a t) ++ (wH cI cT hs hst_ ta ca hh) ++ (wPd cI pd sg nm pp)) ++ (wSl cI cT sl x0 x1) ++ (wM cI cZ mo b mm)) H → va_D (fun q : Nat => s.heap.size ≤ q) (((wX w o hs pd sl) ++ (wT cI o a t) ++ (wH cI cT hs hst_ ta ca hh) ++ (wPd cI pd sg nm pp)) ++ (wSl cI cT sl x0 x1) ++ (wM cI cZ mo b mm)) → va_S (fun q : Nat => s.heap.size ≤ q) s.heap H locs → lv_has ls 4 [(0, .ref bs), (1, .ref w), (2, .ref mo), (3, .int (nI (4 * k)))] → W p l e room_1 s m args below meth c H locs (cells + 2) (slots + 182) Q (F0 m 904 ls []))
    (H : Heap) (locs : List Loc) (ls : Array Slot) (hP : va_P D vwCl (((wX w o hs pd sl) ++ (wT cI o a t) ++ (wH cI cT hs hst_ ta ca hh) ++ (wPd cI pd sg nm pp)) ++ (wSl cI cT sl x0 x1) ++ (wM cI cZ mo b mm)) H) (hD : va_D (fun q : Nat => s.heap.size ≤ q) (((wX w o hs pd sl) ++ (wT cI o a t) ++ (wH cI cT hs hst_ ta ca hh) ++ (wPd cI pd sg nm pp)) ++ (wSl cI cT sl x0 x1) ++ (wM cI cZ mo b mm))) (hS : va_S (fun q : Nat => s.heap.size ≤ q) s.heap H locs) (hl : lv_has ls 4 [(0, .ref bs), (1, .ref w), (2, .ref mo), (3, .int (nI (4 * k)))]) : W p l e room_1 s m args below meth c H locs cells slots Q (F0 m 858 ls []) := by
  obtain ⟨hx, hb, hr0, hml, hown, hts, hlocks⟩ := id C0
  have hF : CallFix p m c code 4 s args BW RL := ⟨hx, hb, hml, hown, hts⟩
  obtain ⟨y1, ey1⟩ : ∃ y, y = xs (nI (4 * k + 1)).toNatClampNeg := ⟨_, rfl⟩
  obtain ⟨r, z, hr, hz, hv, hJ1⟩ := hst k t hh pp (twn x0) (twn x1) mm y1 hk512 hJ
  refine lv_aload_n hx hb dL_law_858 rfl (lv_at hl 1 rfl) ?_
  refine lv_aload_n hx hb dL_law_859 rfl (lv_at hl 0 rfl) ?_
  refine lv_iload_n hx hb dL_law_860 rfl (lv_at hl 3 rfl) ?_
  refine lv_iconst (v := 1) hx hb dL_law_861 (by decide) ?_
  refine lv_iadd hx hb dL_law_862 ?_
  rw [show nI (4 * k) + 1 = nI (4 * k + 1) from nI_add _ _]
  refine va_sld hx hb hX hbl hbA hS hi1 dL_law_863 ?_
  rw [← ey1]
  by_cases c0 : y1 = 0
  · unfold f_X3_save at hr
    rw [if_pos c0] at hr
    subst c0
    rcases x0 with _ | ⟨o3, a3, t3⟩
    · obtain ⟨u3, h3, hr⟩ := bE hr
      have h3 : f_X2_init = some u3 := h3
      have hP : va_P D vwCl ((wM cI cZ mo b mm) ++ (((wX w o hs pd sl) ++ (wT cI o a t) ++ (wH cI cT hs hst_ ta ca hh) ++ (wPd cI pd sg nm pp)) ++ (wA cT sl (fun j => if j = 0 then none else adr x1)) ++ (part cI x1))) H := hP.perm (sq0n ((wX w o hs pd sl) ++ (wT cI o a t) ++ (wH cI cT hs hst_ ta ca hh) ++ (wPd cI pd sg nm pp)) (wA cT sl (fun j => if j = 0 then none else adr x1)) (part cI x1) (wM cI cZ mo b mm))
      have hD : va_D (fun q : Nat => s.heap.size ≤ q) ((wM cI cZ mo b mm) ++ (((wX w o hs pd sl) ++ (wT cI o a t) ++ (wH cI cT hs hst_ ta ca hh) ++ (wPd cI pd sg nm pp)) ++ (wA cT sl (fun j => if j = 0 then none else adr x1)) ++ (part cI x1))) := hD.perm (sq0n ((wX w o hs pd sl) ++ (wT cI o a t) ++ (wH cI cT hs hst_ ta ca hh) ++ (wPd cI pd sg nm pp)) (wA cT sl (fun j => if j = 0 then none else adr x1)) (part cI x1) (wM cI cZ mo b mm))
      obtain ⟨v4, h4, hr⟩ := bE hr
      cases hr
      refine x_MGp (As := [.int 0]) (rest := []) (wr := wM cI cZ mo b mm) (wc := ((wX w o hs pd sl) ++ (wT cI o a t) ++ (wH cI cT hs hst_ ta ca hh) ++ (wPd cI pd sg nm pp)) ++ (wA cT sl (fun j => if j = 0 then none else adr x1)) ++ (part cI x1)) hF (c_X3_save_0n l D cI cZ cT G _ w sl o a t hs hst_ ta ca hh pd sg nm pp (adr x1) (part cI x1) u3 v4 h3 h4) (cwV 1 hts (gqV mw_787 mw_788 mw_789 mw_51 mw_410) rfl rfl rfl hd_X3_save ⟨Nat.le_of_ble_eq_true rfl, Nat.le_of_ble_eq_true rfl⟩) hK hP hD hS hA q_E_bl (q_E_go hE hS (q_freep (List.Perm.refl _) hD hS hA)) (List.Perm.refl _) rfl rfl rfl hl.1 rfl (Nat.le_of_ble_eq_true rfl) dL_law_864 ⟨hc, hc2⟩ (fun u H locs hP hD hS => ?_)
      have hP : va_P D vwCl (((wX w o hs pd sl) ++ (wT cI o a t) ++ (wH cI cT hs hst_ ta ca hh) ++ (wPd cI pd sg nm pp)) ++ (wSl cI cT sl (some (u.1, u.2, v4)) x1) ++ (wM cI cZ mo b mm)) H := hP.perm (sq0s ((wX w o hs pd sl) ++ (wT cI o a t) ++ (wH cI cT hs hst_ ta ca hh) ++ (wPd cI pd sg nm pp)) (wA cT sl (fun j => if j = 0 then some u.1 else adr x1)) (wT cI u.1 u.2 v4) (part cI x1) (wM cI cZ mo b mm)).symm
      have hD : va_D (fun q : Nat => s.heap.size ≤ q) (((wX w o hs pd sl) ++ (wT cI o a t) ++ (wH cI cT hs hst_ ta ca hh) ++ (wPd cI pd sg nm pp)) ++ (wSl cI cT sl (some (u.1, u.2, v4)) x1) ++ (wM cI cZ mo b mm)) := hD.perm (sq0s ((wX w o hs pd sl) ++ (wT cI o a t) ++ (wH cI cT hs hst_ ta ca hh) ++ (wPd cI pd sg nm pp)) (wA cT sl (fun j => if j = 0 then some u.1 else adr x1)) (wT cI u.1 u.2 v4) (part cI x1) (wM cI cZ mo b mm)).symm
      refine lv_aload_n hx hb dL_law_867 rfl (lv_at hl 2 rfl) ?_
      refine lv_aload_n hx hb dL_law_868 rfl (lv_at hl 0 rfl) ?_
      refine lv_iload_n hx hb dL_law_869 rfl (lv_at hl 3 rfl) ?_
      refine lv_iconst (v := 1) hx hb dL_law_870 (by decide) ?_
      refine lv_iadd hx hb dL_law_871 ?_
      rw [show nI (4 * k) + 1 = nI (4 * k + 1) from nI_add _ _]
      refine va_sld hx hb hX hbl hbA hS hi1 dL_law_872 ?_
      rw [← ey1]
      refine x_MVp (As := [.int (0 : Int32)]) (rest := [.int t.2.2.2.1]) (wr := ((wX w o hs pd sl) ++ (wT cI o a t) ++ (wH cI cT hs hst_ ta ca hh) ++ (wPd cI pd sg nm pp)) ++ (wSl cI cT sl (some (u.1, u.2, v4)) x1)) (W1 := ((wX w o hs pd sl) ++ (wT cI o a t) ++ (wH cI cT hs hst_ ta ca hh) ++ (wPd cI pd sg nm pp)) ++ (wSl cI cT sl (some (u.1, u.2, v4)) x1) ++ (wM cI cZ mo b z.2)) hF (c_X4_save l D cI cZ cT _ mo b mm (0 : Int32) z hz) (cwV 1 hts (gqV mw_790 mw_791 mw_792 mw_428 mw_618) rfl rfl rfl hd_X4_save ⟨Nat.le_of_ble_eq_true rfl, Nat.le_of_ble_eq_true rfl⟩) hK hP hD hS hA q_T_bl (fun _ _ _ => (trivial : True)) (List.Perm.refl _) (List.Perm.refl _) rfl rfl rfl hl.1 rfl (Nat.le_of_ble_eq_true rfl) dL_law_873 ⟨hc, hc2⟩ (fun H locs hP hD hS => ?_)
      refine lv_icmp_eq (tgt := 904) hx hb dL_law_876 (by decide) (fun c9 => ?_) (fun c9 => ?_)
      · exact kk _ _ _ (some (u.1, u.2, v4)) x1 _ hJ1 H locs ls hP hD hS hl
      · exact absurd hv c9
    · obtain ⟨u3, h3, hr⟩ := bE hr
      have hP : va_P D vwCl ((wM cI cZ mo b mm) ++ (((wX w o hs pd sl) ++ (wT cI o a t) ++ (wH cI cT hs hst_ ta ca hh) ++ (wPd cI pd sg nm pp)) ++ (wA cT sl (fun j => if j = 0 then some o3 else adr x1)) ++ (wT cI o3 a3 t3) ++ (part cI x1))) H := hP.perm (sq0s ((wX w o hs pd sl) ++ (wT cI o a t) ++ (wH cI cT hs hst_ ta ca hh) ++ (wPd cI pd sg nm pp)) (wA cT sl (fun j => if j = 0 then some o3 else adr x1)) (wT cI o3 a3 t3) (part cI x1) (wM cI cZ mo b mm))
      have hD : va_D (fun q : Nat => s.heap.size ≤ q) ((wM cI cZ mo b mm) ++ (((wX w o hs pd sl) ++ (wT cI o a t) ++ (wH cI cT hs hst_ ta ca hh) ++ (wPd cI pd sg nm pp)) ++ (wA cT sl (fun j => if j = 0 then some o3 else adr x1)) ++ (wT cI o3 a3 t3) ++ (part cI x1))) := hD.perm (sq0s ((wX w o hs pd sl) ++ (wT cI o a t) ++ (wH cI cT hs hst_ ta ca hh) ++ (wPd cI pd sg nm pp)) (wA cT sl (fun j => if j = 0 then some o3 else adr x1)) (wT cI o3 a3 t3) (part cI x1) (wM cI cZ mo b mm))
      have h3 : some t3 = some u3 := h3
      cases h3
      obtain ⟨v4, h4, hr⟩ := bE hr
      cases hr
      refine x_MGp (As := [.int 0]) (rest := []) (wr := wM cI cZ mo b mm) (wc := ((wX w o hs pd sl) ++ (wT cI o a t) ++ (wH cI cT hs hst_ ta ca hh) ++ (wPd cI pd sg nm pp)) ++ (wA cT sl (fun j => if j = 0 then some o3 else adr x1)) ++ (wT cI o3 a3 t3) ++ (part cI x1)) hF (c_X3_save_0s l D cI cZ cT G _ w sl o a t hs hst_ ta ca hh pd sg nm pp (adr x1) (part cI x1) o3 a3 t3 v4 h4) (cwV 1 hts (gqV mw_787 mw_788 mw_789 mw_51 mw_410) rfl rfl rfl hd_X3_save ⟨Nat.le_of_ble_eq_true rfl, Nat.le_of_ble_eq_true rfl⟩) hK hP hD hS hA q_E_bl (q_E_go hE hS (q_freep (List.Perm.refl _) hD hS hA)) (List.Perm.refl _) rfl rfl rfl hl.1 rfl (Nat.le_of_ble_eq_true rfl) dL_law_864 ⟨hc, hc2⟩ (fun u H locs hP hD hS => ?_)
      have hP : va_P D vwCl (((wX w o hs pd sl) ++ (wT cI o a t) ++ (wH cI cT hs hst_ ta ca hh) ++ (wPd cI pd sg nm pp)) ++ (wSl cI cT sl (some (u.1, u.2, v4)) x1) ++ (wM cI cZ mo b mm)) H := hP.perm (sq0s ((wX w o hs pd sl) ++ (wT cI o a t) ++ (wH cI cT hs hst_ ta ca hh) ++ (wPd cI pd sg nm pp)) (wA cT sl (fun j => if j = 0 then some u.1 else adr x1)) (wT cI u.1 u.2 v4) (part cI x1) (wM cI cZ mo b mm)).symm
      have hD : va_D (fun q : Nat => s.heap.size ≤ q) (((wX w o hs pd sl) ++ (wT cI o a t) ++ (wH cI cT hs hst_ ta ca hh) ++ (wPd cI pd sg nm pp)) ++ (wSl cI cT sl (some (u.1, u.2, v4)) x1) ++ (wM cI cZ mo b mm)) := hD.perm (sq0s ((wX w o hs pd sl) ++ (wT cI o a t) ++ (wH cI cT hs hst_ ta ca hh) ++ (wPd cI pd sg nm pp)) (wA cT sl (fun j => if j = 0 then some u.1 else adr x1)) (wT cI u.1 u.2 v4) (part cI x1) (wM cI cZ mo b mm)).symm
      refine lv_aload_n hx hb dL_law_867 rfl (lv_at hl 2 rfl) ?_
      refine lv_aload_n hx hb dL_law_868 rfl (lv_at hl 0 rfl) ?_
      refine lv_iload_n hx hb dL_law_869 rfl (lv_at hl 3 rfl) ?_
      refine lv_iconst (v := 1) hx hb dL_law_870 (by decide) ?_
      refine lv_iadd hx hb dL_law_871 ?_
      rw [show nI (4 * k) + 1 = nI (4 * k + 1) from nI_add _ _]
      refine va_sld hx hb hX hbl hbA hS hi1 dL_law_872 ?_
      rw [← ey1]
      refine x_MVp (As := [.int (0 : Int32)]) (rest := [.int t.2.2.2.1]) (wr := ((wX w o hs pd sl) ++ (wT cI o a t) ++ (wH cI cT hs hst_ ta ca hh) ++ (wPd cI pd sg nm pp)) ++ (wSl cI cT sl (some (u.1, u.2, v4)) x1)) (W1 := ((wX w o hs pd sl) ++ (wT cI o a t) ++ (wH cI cT hs hst_ ta ca hh) ++ (wPd cI pd sg nm pp)) ++ (wSl cI cT sl (some (u.1, u.2, v4)) x1) ++ (wM cI cZ mo b z.2)) hF (c_X4_save l D cI cZ cT _ mo b mm (0 : Int32) z hz) (cwV 1 hts (gqV mw_790 mw_791 mw_792 mw_428 mw_618) rfl rfl rfl hd_X4_save ⟨Nat.le_of_ble_eq_true rfl, Nat.le_of_ble_eq_true rfl⟩) hK hP hD hS hA q_T_bl (fun _ _ _ => (trivial : True)) (List.Perm.refl _) (List.Perm.refl _) rfl rfl rfl hl.1 rfl (Nat.le_of_ble_eq_true rfl) dL_law_873 ⟨hc, hc2⟩ (fun H locs hP hD hS => ?_)
      refine lv_icmp_eq (tgt := 904) hx hb dL_law_876 (by decide) (fun c9 => ?_) (fun c9 => ?_)
      · exact kk _ _ _ (some (u.1, u.2, v4)) x1 _ hJ1 H locs ls hP hD hS hl
      · exact absurd hv c9
  by_cases c1 : y1 = 1
  · unfold f_X3_save at hr
    rw [if_neg c0, if_pos c1] at hr
    subst c1
    rcases x1 with _ | ⟨o3, a3, t3⟩
    · obtain ⟨u3, h3, hr⟩ := bE hr
      have h3 : f_X2_init = some u3 := h3
      have hP : va_P D vwCl ((wM cI cZ mo b mm) ++ (((wX w o hs pd sl) ++ (wT cI o a t) ++ (wH cI cT hs hst_ ta ca hh) ++ (wPd cI pd sg nm pp)) ++ (wA cT sl (fun j => if j = 0 then adr x0 else none)) ++ (part cI x0))) H := hP.perm (sq1n ((wX w o hs pd sl) ++ (wT cI o a t) ++ (wH cI cT hs hst_ ta ca hh) ++ (wPd cI pd sg nm pp)) (wA cT sl (fun j => if j = 0 then adr x0 else none)) (part cI x0) (wM cI cZ mo b mm))
      have hD : va_D (fun q : Nat => s.heap.size ≤ q) ((wM cI cZ mo b mm) ++ (((wX w o hs pd sl) ++ (wT cI o a t) ++ (wH cI cT hs hst_ ta ca hh) ++ (wPd cI pd sg nm pp)) ++ (wA cT sl (fun j => if j = 0 then adr x0 else none)) ++ (part cI x0))) := hD.perm (sq1n ((wX w o hs pd sl) ++ (wT cI o a t) ++ (wH cI cT hs hst_ ta ca hh) ++ (wPd cI pd sg nm pp)) (wA cT sl (fun j => if j = 0 then adr x0 else none)) (part cI x0) (wM cI cZ mo b mm))
      obtain ⟨v4, h4, hr⟩ := bE hr
      cases hr
      refine x_MGp (As := [.int 1]) (rest := []) (wr := wM cI cZ mo b mm) (wc := ((wX w o hs pd sl) ++ (wT cI o a t) ++ (wH cI cT hs hst_ ta ca hh) ++ (wPd cI pd sg nm pp)) ++ (wA cT sl (fun j => if j = 0 then adr x0 else none)) ++ (part cI x0)) hF (c_X3_save_1n l D cI cZ cT G _ w sl o a t hs hst_ ta ca hh pd sg nm pp (adr x0) (part cI x0) u3 v4 h3 h4) (cwV 1 hts (gqV mw_787 mw_788 mw_789 mw_51 mw_410) rfl rfl rfl hd_X3_save ⟨Nat.le_of_ble_eq_true rfl, Nat.le_of_ble_eq_true rfl⟩) hK hP hD hS hA q_E_bl (q_E_go hE hS (q_freep (List.Perm.refl _) hD hS hA)) (List.Perm.refl _) rfl rfl rfl hl.1 rfl (Nat.le_of_ble_eq_true rfl) dL_law_864 ⟨hc, hc2⟩ (fun u H locs hP hD hS => ?_)
      have hP : va_P D vwCl (((wX w o hs pd sl) ++ (wT cI o a t) ++ (wH cI cT hs hst_ ta ca hh) ++ (wPd cI pd sg nm pp)) ++ (wSl cI cT sl x0 (some (u.1, u.2, v4))) ++ (wM cI cZ mo b mm)) H := hP.perm (sq1s ((wX w o hs pd sl) ++ (wT cI o a t) ++ (wH cI cT hs hst_ ta ca hh) ++ (wPd cI pd sg nm pp)) (wA cT sl (fun j => if j = 0 then adr x0 else some u.1)) (wT cI u.1 u.2 v4) (part cI x0) (wM cI cZ mo b mm)).symm
      have hD : va_D (fun q : Nat => s.heap.size ≤ q) (((wX w o hs pd sl) ++ (wT cI o a t) ++ (wH cI cT hs hst_ ta ca hh) ++ (wPd cI pd sg nm pp)) ++ (wSl cI cT sl x0 (some (u.1, u.2, v4))) ++ (wM cI cZ mo b mm)) := hD.perm (sq1s ((wX w o hs pd sl) ++ (wT cI o a t) ++ (wH cI cT hs hst_ ta ca hh) ++ (wPd cI pd sg nm pp)) (wA cT sl (fun j => if j = 0 then adr x0 else some u.1)) (wT cI u.1 u.2 v4) (part cI x0) (wM cI cZ mo b mm)).symm
      refine lv_aload_n hx hb dL_law_867 rfl (lv_at hl 2 rfl) ?_
      refine lv_aload_n hx hb dL_law_868 rfl (lv_at hl 0 rfl) ?_
      refine lv_iload_n hx hb dL_law_869 rfl (lv_at hl 3 rfl) ?_
      refine lv_iconst (v := 1) hx hb dL_law_870 (by decide) ?_
      refine lv_iadd hx hb dL_law_871 ?_
      rw [show nI (4 * k) + 1 = nI (4 * k + 1) from nI_add _ _]
      refine va_sld hx hb hX hbl hbA hS hi1 dL_law_872 ?_
      rw [← ey1]
      refine x_MVp (As := [.int (1 : Int32)]) (rest := [.int t.2.2.2.1]) (wr := ((wX w o hs pd sl) ++ (wT cI o a t) ++ (wH cI cT hs hst_ ta ca hh) ++ (wPd cI pd sg nm pp)) ++ (wSl cI cT sl x0 (some (u.1, u.2, v4)))) (W1 := ((wX w o hs pd sl) ++ (wT cI o a t) ++ (wH cI cT hs hst_ ta ca hh) ++ (wPd cI pd sg nm pp)) ++ (wSl cI cT sl x0 (some (u.1, u.2, v4))) ++ (wM cI cZ mo b z.2)) hF (c_X4_save l D cI cZ cT _ mo b mm (1 : Int32) z hz) (cwV 1 hts (gqV mw_790 mw_791 mw_792 mw_428 mw_618) rfl rfl rfl hd_X4_save ⟨Nat.le_of_ble_eq_true rfl, Nat.le_of_ble_eq_true rfl⟩) hK hP hD hS hA q_T_bl (fun _ _ _ => (trivial : True)) (List.Perm.refl _) (List.Perm.refl _) rfl rfl rfl hl.1 rfl (Nat.le_of_ble_eq_true rfl) dL_law_873 ⟨hc, hc2⟩ (fun H locs hP hD hS => ?_)
      refine lv_icmp_eq (tgt := 904) hx hb dL_law_876 (by decide) (fun c9 => ?_) (fun c9 => ?_)
      · exact kk _ _ _ x0 (some (u.1, u.2, v4)) _ hJ1 H locs ls hP hD hS hl
      · exact absurd hv c9
    · obtain ⟨u3, h3, hr⟩ := bE hr
      have hP : va_P D vwCl ((wM cI cZ mo b mm) ++ (((wX w o hs pd sl) ++ (wT cI o a t) ++ (wH cI cT hs hst_ ta ca hh) ++ (wPd cI pd sg nm pp)) ++ (wA cT sl (fun j => if j = 0 then adr x0 else some o3)) ++ (wT cI o3 a3 t3) ++ (part cI x0))) H := hP.perm (sq1s ((wX w o hs pd sl) ++ (wT cI o a t) ++ (wH cI cT hs hst_ ta ca hh) ++ (wPd cI pd sg nm pp)) (wA cT sl (fun j => if j = 0 then adr x0 else some o3)) (wT cI o3 a3 t3) (part cI x0) (wM cI cZ mo b mm))
      have hD : va_D (fun q : Nat => s.heap.size ≤ q) ((wM cI cZ mo b mm) ++ (((wX w o hs pd sl) ++ (wT cI o a t) ++ (wH cI cT hs hst_ ta ca hh) ++ (wPd cI pd sg nm pp)) ++ (wA cT sl (fun j => if j = 0 then adr x0 else some o3)) ++ (wT cI o3 a3 t3) ++ (part cI x0))) := hD.perm (sq1s ((wX w o hs pd sl) ++ (wT cI o a t) ++ (wH cI cT hs hst_ ta ca hh) ++ (wPd cI pd sg nm pp)) (wA cT sl (fun j => if j = 0 then adr x0 else some o3)) (wT cI o3 a3 t3) (part cI x0) (wM cI cZ mo b mm))
      have h3 : some t3 = some u3 := h3
      cases h3
      obtain ⟨v4, h4, hr⟩ := bE hr
      cases hr
      refine x_MGp (As := [.int 1]) (rest := []) (wr := wM cI cZ mo b mm) (wc := ((wX w o hs pd sl) ++ (wT cI o a t) ++ (wH cI cT hs hst_ ta ca hh) ++ (wPd cI pd sg nm pp)) ++ (wA cT sl (fun j => if j = 0 then adr x0 else some o3)) ++ (wT cI o3 a3 t3) ++ (part cI x0)) hF (c_X3_save_1s l D cI cZ cT G _ w sl o a t hs hst_ ta ca hh pd sg nm pp (adr x0) (part cI x0) o3 a3 t3 v4 h4) (cwV 1 hts (gqV mw_787 mw_788 mw_789 mw_51 mw_410) rfl rfl rfl hd_X3_save ⟨Nat.le_of_ble_eq_true rfl, Nat.le_of_ble_eq_true rfl⟩) hK hP hD hS hA q_E_bl (q_E_go hE hS (q_freep (List.Perm.refl _) hD hS hA)) (List.Perm.refl _) rfl rfl rfl hl.1 rfl (Nat.le_of_ble_eq_true rfl) dL_law_864 ⟨hc, hc2⟩ (fun u H locs hP hD hS => ?_)
      have hP : va_P D vwCl (((wX w o hs pd sl) ++ (wT cI o a t) ++ (wH cI cT hs hst_ ta ca hh) ++ (wPd cI pd sg nm pp)) ++ (wSl cI cT sl x0 (some (u.1, u.2, v4))) ++ (wM cI cZ mo b mm)) H := hP.perm (sq1s ((wX w o hs pd sl) ++ (wT cI o a t) ++ (wH cI cT hs hst_ ta ca hh) ++ (wPd cI pd sg nm pp)) (wA cT sl (fun j => if j = 0 then adr x0 else some u.1)) (wT cI u.1 u.2 v4) (part cI x0) (wM cI cZ mo b mm)).symm
      have hD : va_D (fun q : Nat => s.heap.size ≤ q) (((wX w o hs pd sl) ++ (wT cI o a t) ++ (wH cI cT hs hst_ ta ca hh) ++ (wPd cI pd sg nm pp)) ++ (wSl cI cT sl x0 (some (u.1, u.2, v4))) ++ (wM cI cZ mo b mm)) := hD.perm (sq1s ((wX w o hs pd sl) ++ (wT cI o a t) ++ (wH cI cT hs hst_ ta ca hh) ++ (wPd cI pd sg nm pp)) (wA cT sl (fun j => if j = 0 then adr x0 else some u.1)) (wT cI u.1 u.2 v4) (part cI x0) (wM cI cZ mo b mm)).symm
      refine lv_aload_n hx hb dL_law_867 rfl (lv_at hl 2 rfl) ?_
      refine lv_aload_n hx hb dL_law_868 rfl (lv_at hl 0 rfl) ?_
      refine lv_iload_n hx hb dL_law_869 rfl (lv_at hl 3 rfl) ?_
      refine lv_iconst (v := 1) hx hb dL_law_870 (by decide) ?_
      refine lv_iadd hx hb dL_law_871 ?_
      rw [show nI (4 * k) + 1 = nI (4 * k + 1) from nI_add _ _]
      refine va_sld hx hb hX hbl hbA hS hi1 dL_law_872 ?_
      rw [← ey1]
      refine x_MVp (As := [.int (1 : Int32)]) (rest := [.int t.2.2.2.1]) (wr := ((wX w o hs pd sl) ++ (wT cI o a t) ++ (wH cI cT hs hst_ ta ca hh) ++ (wPd cI pd sg nm pp)) ++ (wSl cI cT sl x0 (some (u.1, u.2, v4)))) (W1 := ((wX w o hs pd sl) ++ (wT cI o a t) ++ (wH cI cT hs hst_ ta ca hh) ++ (wPd cI pd sg nm pp)) ++ (wSl cI cT sl x0 (some (u.1, u.2, v4))) ++ (wM cI cZ mo b z.2)) hF (c_X4_save l D cI cZ cT _ mo b mm (1 : Int32) z hz) (cwV 1 hts (gqV mw_790 mw_791 mw_792 mw_428 mw_618) rfl rfl rfl hd_X4_save ⟨Nat.le_of_ble_eq_true rfl, Nat.le_of_ble_eq_true rfl⟩) hK hP hD hS hA q_T_bl (fun _ _ _ => (trivial : True)) (List.Perm.refl _) (List.Perm.refl _) rfl rfl rfl hl.1 rfl (Nat.le_of_ble_eq_true rfl) dL_law_873 ⟨hc, hc2⟩ (fun H locs hP hD hS => ?_)
      refine lv_icmp_eq (tgt := 904) hx hb dL_law_876 (by decide) (fun c9 => ?_) (fun c9 => ?_)
      · exact kk _ _ _ x0 (some (u.1, u.2, v4)) _ hJ1 H locs ls hP hD hS hl
      · exact absurd hv c9
  unfold f_X3_save at hr
  rw [if_neg c0, if_neg c1] at hr
  obtain ⟨zb, hkb, hr⟩ := bE hr
  by_cases c2 : zb = 0
  · have hr := xt c2 hr
    subst c2
    cases hr
    have hP : va_P D vwCl ((wM cI cZ mo b mm) ++ (((wX w o hs pd sl) ++ (wT cI o a t) ++ (wH cI cT hs hst_ ta ca hh) ++ (wPd cI pd sg nm pp)) ++ (wA cT sl (fun j => if j = 0 then adr x0 else adr x1)) ++ ((part cI x0) ++ (part cI x1)))) H := hP.perm (sqb ((wX w o hs pd sl) ++ (wT cI o a t) ++ (wH cI cT hs hst_ ta ca hh) ++ (wPd cI pd sg nm pp)) (wA cT sl (fun j => if j = 0 then adr x0 else adr x1)) (part cI x0) (part cI x1) (wM cI cZ mo b mm))
    have hD : va_D (fun q : Nat => s.heap.size ≤ q) ((wM cI cZ mo b mm) ++ (((wX w o hs pd sl) ++ (wT cI o a t) ++ (wH cI cT hs hst_ ta ca hh) ++ (wPd cI pd sg nm pp)) ++ (wA cT sl (fun j => if j = 0 then adr x0 else adr x1)) ++ ((part cI x0) ++ (part cI x1)))) := hD.perm (sqb ((wX w o hs pd sl) ++ (wT cI o a t) ++ (wH cI cT hs hst_ ta ca hh) ++ (wPd cI pd sg nm pp)) (wA cT sl (fun j => if j = 0 then adr x0 else adr x1)) (part cI x0) (part cI x1) (wM cI cZ mo b mm))
    refine x_MGp (As := [.int y1]) (rest := []) (wr := wM cI cZ mo b mm) (wc := ((wX w o hs pd sl) ++ (wT cI o a t) ++ (wH cI cT hs hst_ ta ca hh) ++ (wPd cI pd sg nm pp)) ++ (wA cT sl (fun j => if j = 0 then adr x0 else adr x1)) ++ ((part cI x0) ++ (part cI x1))) hF (c_X3_save_bad l D cI cZ cT G _ w sl o a t hs hst_ ta ca hh pd sg nm pp (fun j => if j = 0 then adr x0 else adr x1) ((part cI x0) ++ (part cI x1)) y1 hkb) (cwV 1 hts (gqV mw_787 mw_788 mw_789 mw_51 mw_410) rfl rfl rfl hd_X3_save ⟨Nat.le_of_ble_eq_true rfl, Nat.le_of_ble_eq_true rfl⟩) hK hP hD hS hA q_E_bl (q_E_go hE hS (q_freep (List.Perm.refl _) hD hS hA)) (List.Perm.refl _) rfl rfl rfl hl.1 rfl (Nat.le_of_ble_eq_true rfl) dL_law_864 ⟨hc, hc2⟩ (fun u H locs hP hD hS => ?_)
    have hP : va_P D vwCl (((wX w o hs pd sl) ++ (wT cI o a t) ++ (wH cI cT hs hst_ ta ca hh) ++ (wPd cI pd sg nm pp)) ++ (wSl cI cT sl x0 x1) ++ (wM cI cZ mo b mm)) H := hP.perm (sqb ((wX w o hs pd sl) ++ (wT cI o a t) ++ (wH cI cT hs hst_ ta ca hh) ++ (wPd cI pd sg nm pp)) (wA cT sl (fun j => if j = 0 then adr x0 else adr x1)) (part cI x0) (part cI x1) (wM cI cZ mo b mm)).symm
    have hD : va_D (fun q : Nat => s.heap.size ≤ q) (((wX w o hs pd sl) ++ (wT cI o a t) ++ (wH cI cT hs hst_ ta ca hh) ++ (wPd cI pd sg nm pp)) ++ (wSl cI cT sl x0 x1) ++ (wM cI cZ mo b mm)) := hD.perm (sqb ((wX w o hs pd sl) ++ (wT cI o a t) ++ (wH cI cT hs hst_ ta ca hh) ++ (wPd cI pd sg nm pp)) (wA cT sl (fun j => if j = 0 then adr x0 else adr x1)) (part cI x0) (part cI x1) (wM cI cZ mo b mm)).symm
    refine lv_aload_n hx hb dL_law_867 rfl (lv_at hl 2 rfl) ?_
    refine lv_aload_n hx hb dL_law_868 rfl (lv_at hl 0 rfl) ?_
    refine lv_iload_n hx hb dL_law_869 rfl (lv_at hl 3 rfl) ?_
    refine lv_iconst (v := 1) hx hb dL_law_870 (by decide) ?_
    refine lv_iadd hx hb dL_law_871 ?_
    rw [show nI (4 * k) + 1 = nI (4 * k + 1) from nI_add _ _]
    refine va_sld hx hb hX hbl hbA hS hi1 dL_law_872 ?_
    rw [← ey1]
    refine x_MVp (As := [.int y1]) (rest := [.int (-2)]) (wr := ((wX w o hs pd sl) ++ (wT cI o a t) ++ (wH cI cT hs hst_ ta ca hh) ++ (wPd cI pd sg nm pp)) ++ (wSl cI cT sl x0 x1)) (W1 := ((wX w o hs pd sl) ++ (wT cI o a t) ++ (wH cI cT hs hst_ ta ca hh) ++ (wPd cI pd sg nm pp)) ++ (wSl cI cT sl x0 x1) ++ (wM cI cZ mo b z.2)) hF (c_X4_save l D cI cZ cT _ mo b mm y1 z hz) (cwV 1 hts (gqV mw_790 mw_791 mw_792 mw_428 mw_618) rfl rfl rfl hd_X4_save ⟨Nat.le_of_ble_eq_true rfl, Nat.le_of_ble_eq_true rfl⟩) hK hP hD hS hA q_T_bl (fun _ _ _ => (trivial : True)) (List.Perm.refl _) (List.Perm.refl _) rfl rfl rfl hl.1 rfl (Nat.le_of_ble_eq_true rfl) dL_law_873 ⟨hc, hc2⟩ (fun H locs hP hD hS => ?_)
    refine lv_icmp_eq (tgt := 904) hx hb dL_law_876 (by decide) (fun c9 => ?_) (fun c9 => ?_)
    · exact kk _ _ _ x0 x1 _ hJ1 H locs ls hP hD hS hl
    · exact absurd hv c9
  exact absurd (xf c2 hr) (by simp)
set_option maxHeartbeats 8000000 in
set_option maxRecDepth 100000 in
theorem lc_restore {G : q_G} {bs L : Nat} {xs : Nat → Int32} (J : JT) (hst : St_restore J) {Q : State → Prop} (C0 : q_At p s m args meth c code 4 ret RL) (hK : va_K D vwCl (q_tys cI cZ cT) s) (hA : ∀ q, s.heap.size ≤ q → (fun q : Nat => s.heap.size ≤ q) q) (hE : q_E G (fun q : Nat => s.heap.size ≤ q) s) (hX : va_X bs L xs s s.heap) (hbl : bs < s.heap.size) (hbA : ¬ (fun q : Nat => s.heap.size ≤ q) bs) (k : Nat) (hk512 : k < 512) (hi1 : vp_in (nI (4 * k + 1)) L) {cells slots : Nat} (hc : cells + 0 ≤ room_1.cells) (hc2 : slots + 0 ≤ room_1.slots) (w sl o a : Nat) (hs hst_ : Nat) (ta ca : Nat → Nat) (pd sg nm mo : Nat) (b : Nat → Nat) (x0 x1 : Option (Nat × Nat × TT)) (t : TT) (hh : HH) (pp : PP) (mm : MM) (hJ : J k t hh pp (twn x0) (twn x1) mm)
    (kk : ∀ (t : TT) (hh : HH) (pp : PP) (x0 x1 : Option (Nat × Nat × TT)) (mm : MM), J (k + 1) t hh pp (twn x0) (twn x1) mm → ∀ (H : Heap) (locs : List Loc) (ls : Array Slot), va_P D vwCl (((wX w o hs pd sl) ++ (wT cI o a t) ++ (wH cI cT hs hst_ ta ca hh) ++ (wPd cI pd sg nm pp)) ++ (wSl cI cT sl x0 x1) ++ (wM cI cZ mo b mm)) H → va_D (fun q : Nat => s.heap.size ≤ q) (((wX w o hs pd sl) ++ (wT cI o a t) ++ (wH cI cT hs hst_ ta ca hh) ++ (wPd cI pd sg nm pp)) ++ (wSl cI cT sl x0 x1) ++ (wM cI cZ mo b mm)) → va_S (fun q : Nat => s.heap.size ≤ q) s.heap H locs → lv_has ls 4 [(0, .ref bs), (1, .ref w), (2, .ref mo), (3, .int (nI (4 * k)))] → W p l e room_1 s m args below meth c H locs (cells + 0) (slots + 0) Q (F0 m 904 ls []))
    (H : Heap) (locs : List Loc) (ls : Array Slot) (hP : va_P D vwCl (((wX w o hs pd sl) ++ (wT cI o a t) ++ (wH cI cT hs hst_ ta ca hh) ++ (wPd cI pd sg nm pp)) ++ (wSl cI cT sl x0 x1) ++ (wM cI cZ mo b mm)) H) (hD : va_D (fun q : Nat => s.heap.size ≤ q) (((wX w o hs pd sl) ++ (wT cI o a t) ++ (wH cI cT hs hst_ ta ca hh) ++ (wPd cI pd sg nm pp)) ++ (wSl cI cT sl x0 x1) ++ (wM cI cZ mo b mm))) (hS : va_S (fun q : Nat => s.heap.size ≤ q) s.heap H locs) (hl : lv_has ls 4 [(0, .ref bs), (1, .ref w), (2, .ref mo), (3, .int (nI (4 * k)))]) : W p l e room_1 s m args below meth c H locs cells slots Q (F0 m 881 ls []) := by
  obtain ⟨hx, hb, hr0, hml, hown, hts, hlocks⟩ := id C0
  have hF : CallFix p m c code 4 s args BW RL := ⟨hx, hb, hml, hown, hts⟩
  obtain ⟨y1, ey1⟩ : ∃ y, y = xs (nI (4 * k + 1)).toNatClampNeg := ⟨_, rfl⟩
  obtain ⟨r, z, hr, hz, hv, hJ1⟩ := hst k t hh pp (twn x0) (twn x1) mm y1 hk512 hJ
  refine lv_aload_n hx hb dL_law_881 rfl (lv_at hl 1 rfl) ?_
  refine lv_aload_n hx hb dL_law_882 rfl (lv_at hl 0 rfl) ?_
  refine lv_iload_n hx hb dL_law_883 rfl (lv_at hl 3 rfl) ?_
  refine lv_iconst (v := 1) hx hb dL_law_884 (by decide) ?_
  refine lv_iadd hx hb dL_law_885 ?_
  rw [show nI (4 * k) + 1 = nI (4 * k + 1) from nI_add _ _]
  refine va_sld hx hb hX hbl hbA hS hi1 dL_law_886 ?_
  rw [← ey1]
  by_cases c0 : y1 = 0
  · rw [f_X3_restore, if_pos c0] at hr
    subst c0
    rcases x0 with _ | ⟨o3, a3, t3⟩
    · have hr : f_back t hh none = some r := hr
      rw [f_back] at hr
      have hP : va_P D vwCl ((wM cI cZ mo b mm) ++ (((wX w o hs pd sl) ++ (wT cI o a t) ++ (wH cI cT hs hst_ ta ca hh) ++ (wPd cI pd sg nm pp)) ++ (wA cT sl (fun j => if j = 0 then none else adr x1)) ++ (part cI x1))) H := hP.perm (sq0n ((wX w o hs pd sl) ++ (wT cI o a t) ++ (wH cI cT hs hst_ ta ca hh) ++ (wPd cI pd sg nm pp)) (wA cT sl (fun j => if j = 0 then none else adr x1)) (part cI x1) (wM cI cZ mo b mm))
      have hD : va_D (fun q : Nat => s.heap.size ≤ q) ((wM cI cZ mo b mm) ++ (((wX w o hs pd sl) ++ (wT cI o a t) ++ (wH cI cT hs hst_ ta ca hh) ++ (wPd cI pd sg nm pp)) ++ (wA cT sl (fun j => if j = 0 then none else adr x1)) ++ (part cI x1))) := hD.perm (sq0n ((wX w o hs pd sl) ++ (wT cI o a t) ++ (wH cI cT hs hst_ ta ca hh) ++ (wPd cI pd sg nm pp)) (wA cT sl (fun j => if j = 0 then none else adr x1)) (part cI x1) (wM cI cZ mo b mm))
      cases hr
      refine x_MGp (As := [.int 0]) (rest := []) (wr := wM cI cZ mo b mm) (wc := ((wX w o hs pd sl) ++ (wT cI o a t) ++ (wH cI cT hs hst_ ta ca hh) ++ (wPd cI pd sg nm pp)) ++ (wA cT sl (fun j => if j = 0 then none else adr x1)) ++ (part cI x1)) hF (c_X3_restore_0n l D cI cZ cT G _ w sl o a t hs hst_ ta ca hh pd sg nm pp (adr x1) (part cI x1)) (cwV 1 hts (gqV mw_793 mw_794 mw_795 mw_51 mw_411) rfl rfl rfl hd_X3_restore ⟨Nat.le_of_ble_eq_true rfl, Nat.le_of_ble_eq_true rfl⟩) hK hP hD hS hA q_E_bl (q_E_go hE hS (q_freep (List.Perm.refl _) hD hS hA)) (List.Perm.refl _) rfl rfl rfl hl.1 rfl (Nat.le_of_ble_eq_true rfl) dL_law_887 ⟨hc, hc2⟩ (fun u H locs hP hD hS => ?_)
      have hP : va_P D vwCl (((wX w o hs pd sl) ++ (wT cI o a t) ++ (wH cI cT hs hst_ ta ca hh) ++ (wPd cI pd sg nm pp)) ++ (wSl cI cT sl (none : Option (Nat × Nat × TT)) x1) ++ (wM cI cZ mo b mm)) H := hP.perm (sq0n ((wX w o hs pd sl) ++ (wT cI o a t) ++ (wH cI cT hs hst_ ta ca hh) ++ (wPd cI pd sg nm pp)) (wA cT sl (fun j => if j = 0 then none else adr x1)) (part cI x1) (wM cI cZ mo b mm)).symm
      have hD : va_D (fun q : Nat => s.heap.size ≤ q) (((wX w o hs pd sl) ++ (wT cI o a t) ++ (wH cI cT hs hst_ ta ca hh) ++ (wPd cI pd sg nm pp)) ++ (wSl cI cT sl (none : Option (Nat × Nat × TT)) x1) ++ (wM cI cZ mo b mm)) := hD.perm (sq0n ((wX w o hs pd sl) ++ (wT cI o a t) ++ (wH cI cT hs hst_ ta ca hh) ++ (wPd cI pd sg nm pp)) (wA cT sl (fun j => if j = 0 then none else adr x1)) (part cI x1) (wM cI cZ mo b mm)).symm
      refine lv_aload_n hx hb dL_law_890 rfl (lv_at hl 2 rfl) ?_
      refine lv_aload_n hx hb dL_law_891 rfl (lv_at hl 0 rfl) ?_
      refine lv_iload_n hx hb dL_law_892 rfl (lv_at hl 3 rfl) ?_
      refine lv_iconst (v := 1) hx hb dL_law_893 (by decide) ?_
      refine lv_iadd hx hb dL_law_894 ?_
      rw [show nI (4 * k) + 1 = nI (4 * k + 1) from nI_add _ _]
      refine va_sld hx hb hX hbl hbA hS hi1 dL_law_895 ?_
      rw [← ey1]
      refine x_MVp (As := [.int (0 : Int32)]) (rest := [.int (-5)]) (wr := ((wX w o hs pd sl) ++ (wT cI o a t) ++ (wH cI cT hs hst_ ta ca hh) ++ (wPd cI pd sg nm pp)) ++ (wSl cI cT sl (none : Option (Nat × Nat × TT)) x1)) (W1 := ((wX w o hs pd sl) ++ (wT cI o a t) ++ (wH cI cT hs hst_ ta ca hh) ++ (wPd cI pd sg nm pp)) ++ (wSl cI cT sl (none : Option (Nat × Nat × TT)) x1) ++ (wM cI cZ mo b z.2)) hF (c_X4_restore l D cI cZ cT _ mo b mm (0 : Int32) z hz) (cwV 1 hts (gqV mw_796 mw_797 mw_798 mw_428 mw_619) rfl rfl rfl hd_X4_restore ⟨Nat.le_of_ble_eq_true rfl, Nat.le_of_ble_eq_true rfl⟩) hK hP hD hS hA q_T_bl (fun _ _ _ => (trivial : True)) (List.Perm.refl _) (List.Perm.refl _) rfl rfl rfl hl.1 rfl (Nat.le_of_ble_eq_true rfl) dL_law_896 ⟨hc, hc2⟩ (fun H locs hP hD hS => ?_)
      refine lv_icmp_eq (tgt := 904) hx hb dL_law_899 (by decide) (fun c9 => ?_) (fun c9 => ?_)
      · exact kk _ _ _ (none : Option (Nat × Nat × TT)) x1 _ hJ1 H locs ls hP hD hS hl
      · exact absurd hv c9
    · have hr : f_back t hh (some t3) = some r := hr
      rw [f_back] at hr
      have hP : va_P D vwCl ((wM cI cZ mo b mm) ++ (((wX w o hs pd sl) ++ (wT cI o a t) ++ (wH cI cT hs hst_ ta ca hh) ++ (wPd cI pd sg nm pp)) ++ (wA cT sl (fun j => if j = 0 then some o3 else adr x1)) ++ (wT cI o3 a3 t3) ++ (part cI x1))) H := hP.perm (sq0s ((wX w o hs pd sl) ++ (wT cI o a t) ++ (wH cI cT hs hst_ ta ca hh) ++ (wPd cI pd sg nm pp)) (wA cT sl (fun j => if j = 0 then some o3 else adr x1)) (wT cI o3 a3 t3) (part cI x1) (wM cI cZ mo b mm))
      have hD : va_D (fun q : Nat => s.heap.size ≤ q) ((wM cI cZ mo b mm) ++ (((wX w o hs pd sl) ++ (wT cI o a t) ++ (wH cI cT hs hst_ ta ca hh) ++ (wPd cI pd sg nm pp)) ++ (wA cT sl (fun j => if j = 0 then some o3 else adr x1)) ++ (wT cI o3 a3 t3) ++ (part cI x1))) := hD.perm (sq0s ((wX w o hs pd sl) ++ (wT cI o a t) ++ (wH cI cT hs hst_ ta ca hh) ++ (wPd cI pd sg nm pp)) (wA cT sl (fun j => if j = 0 then some o3 else adr x1)) (wT cI o3 a3 t3) (part cI x1) (wM cI cZ mo b mm))
      obtain ⟨h1, hn, hr⟩ := bE hr
      obtain ⟨v4, h4, hr⟩ := bE hr
      obtain ⟨z5, h5, hr⟩ := bE hr
      cases hr
      refine x_MGp (As := [.int 0]) (rest := []) (wr := wM cI cZ mo b mm) (wc := ((wX w o hs pd sl) ++ (wT cI o a t) ++ (wH cI cT hs hst_ ta ca hh) ++ (wPd cI pd sg nm pp)) ++ (wA cT sl (fun j => if j = 0 then some o3 else adr x1)) ++ (wT cI o3 a3 t3) ++ (part cI x1)) hF (c_X3_restore_0s l D cI cZ cT G _ w sl o a t hs hst_ ta ca hh pd sg nm pp (adr x1) (part cI x1) o3 a3 t3 v4 h1 z5 hn h4 h5) (cwV 1 hts (gqV mw_793 mw_794 mw_795 mw_51 mw_411) rfl rfl rfl hd_X3_restore ⟨Nat.le_of_ble_eq_true rfl, Nat.le_of_ble_eq_true rfl⟩) hK hP hD hS hA q_E_bl (q_E_go hE hS (q_freep (List.Perm.refl _) hD hS hA)) (List.Perm.refl _) rfl rfl rfl hl.1 rfl (Nat.le_of_ble_eq_true rfl) dL_law_887 ⟨hc, hc2⟩ (fun u H locs hP hD hS => ?_)
      have hP : va_P D vwCl (((wX w o hs pd sl) ++ (wT cI o a v4) ++ (wH cI cT hs hst_ ta ca z5.2) ++ (wPd cI pd sg nm pp)) ++ (wSl cI cT sl (some (o3, a3, t3)) x1) ++ (wM cI cZ mo b mm)) H := hP.perm (sq0s ((wX w o hs pd sl) ++ (wT cI o a v4) ++ (wH cI cT hs hst_ ta ca z5.2) ++ (wPd cI pd sg nm pp)) (wA cT sl (fun j => if j = 0 then some o3 else adr x1)) (wT cI o3 a3 t3) (part cI x1) (wM cI cZ mo b mm)).symm
      have hD : va_D (fun q : Nat => s.heap.size ≤ q) (((wX w o hs pd sl) ++ (wT cI o a v4) ++ (wH cI cT hs hst_ ta ca z5.2) ++ (wPd cI pd sg nm pp)) ++ (wSl cI cT sl (some (o3, a3, t3)) x1) ++ (wM cI cZ mo b mm)) := hD.perm (sq0s ((wX w o hs pd sl) ++ (wT cI o a v4) ++ (wH cI cT hs hst_ ta ca z5.2) ++ (wPd cI pd sg nm pp)) (wA cT sl (fun j => if j = 0 then some o3 else adr x1)) (wT cI o3 a3 t3) (part cI x1) (wM cI cZ mo b mm)).symm
      refine lv_aload_n hx hb dL_law_890 rfl (lv_at hl 2 rfl) ?_
      refine lv_aload_n hx hb dL_law_891 rfl (lv_at hl 0 rfl) ?_
      refine lv_iload_n hx hb dL_law_892 rfl (lv_at hl 3 rfl) ?_
      refine lv_iconst (v := 1) hx hb dL_law_893 (by decide) ?_
      refine lv_iadd hx hb dL_law_894 ?_
      rw [show nI (4 * k) + 1 = nI (4 * k + 1) from nI_add _ _]
      refine va_sld hx hb hX hbl hbA hS hi1 dL_law_895 ?_
      rw [← ey1]
      refine x_MVp (As := [.int (0 : Int32)]) (rest := [.int z5.1]) (wr := ((wX w o hs pd sl) ++ (wT cI o a v4) ++ (wH cI cT hs hst_ ta ca z5.2) ++ (wPd cI pd sg nm pp)) ++ (wSl cI cT sl (some (o3, a3, t3)) x1)) (W1 := ((wX w o hs pd sl) ++ (wT cI o a v4) ++ (wH cI cT hs hst_ ta ca z5.2) ++ (wPd cI pd sg nm pp)) ++ (wSl cI cT sl (some (o3, a3, t3)) x1) ++ (wM cI cZ mo b z.2)) hF (c_X4_restore l D cI cZ cT _ mo b mm (0 : Int32) z hz) (cwV 1 hts (gqV mw_796 mw_797 mw_798 mw_428 mw_619) rfl rfl rfl hd_X4_restore ⟨Nat.le_of_ble_eq_true rfl, Nat.le_of_ble_eq_true rfl⟩) hK hP hD hS hA q_T_bl (fun _ _ _ => (trivial : True)) (List.Perm.refl _) (List.Perm.refl _) rfl rfl rfl hl.1 rfl (Nat.le_of_ble_eq_true rfl) dL_law_896 ⟨hc, hc2⟩ (fun H locs hP hD hS => ?_)
      refine lv_icmp_eq (tgt := 904) hx hb dL_law_899 (by decide) (fun c9 => ?_) (fun c9 => ?_)
      · exact kk _ _ _ (some (o3, a3, t3)) x1 _ hJ1 H locs ls hP hD hS hl
      · exact absurd hv c9
  by_cases c1 : y1 = 1
  · rw [f_X3_restore, if_neg c0, if_pos c1] at hr
    subst c1
    rcases x1 with _ | ⟨o3, a3, t3⟩
    · have hr : f_back t hh none = some r := hr
      rw [f_back] at hr
      have hP : va_P D vwCl ((wM cI cZ mo b mm) ++ (((wX w o hs pd sl) ++ (wT cI o a t) ++ (wH cI cT hs hst_ ta ca hh) ++ (wPd cI pd sg nm pp)) ++ (wA cT sl (fun j => if j = 0 then adr x0 else none)) ++ (part cI x0))) H := hP.perm (sq1n ((wX w o hs pd sl) ++ (wT cI o a t) ++ (wH cI cT hs hst_ ta ca hh) ++ (wPd cI pd sg nm pp)) (wA cT sl (fun j => if j = 0 then adr x0 else none)) (part cI x0) (wM cI cZ mo b mm))
      have hD : va_D (fun q : Nat => s.heap.size ≤ q) ((wM cI cZ mo b mm) ++ (((wX w o hs pd sl) ++ (wT cI o a t) ++ (wH cI cT hs hst_ ta ca hh) ++ (wPd cI pd sg nm pp)) ++ (wA cT sl (fun j => if j = 0 then adr x0 else none)) ++ (part cI x0))) := hD.perm (sq1n ((wX w o hs pd sl) ++ (wT cI o a t) ++ (wH cI cT hs hst_ ta ca hh) ++ (wPd cI pd sg nm pp)) (wA cT sl (fun j => if j = 0 then adr x0 else none)) (part cI x0) (wM cI cZ mo b mm))
      cases hr
      refine x_MGp (As := [.int 1]) (rest := []) (wr := wM cI cZ mo b mm) (wc := ((wX w o hs pd sl) ++ (wT cI o a t) ++ (wH cI cT hs hst_ ta ca hh) ++ (wPd cI pd sg nm pp)) ++ (wA cT sl (fun j => if j = 0 then adr x0 else none)) ++ (part cI x0)) hF (c_X3_restore_1n l D cI cZ cT G _ w sl o a t hs hst_ ta ca hh pd sg nm pp (adr x0) (part cI x0)) (cwV 1 hts (gqV mw_793 mw_794 mw_795 mw_51 mw_411) rfl rfl rfl hd_X3_restore ⟨Nat.le_of_ble_eq_true rfl, Nat.le_of_ble_eq_true rfl⟩) hK hP hD hS hA q_E_bl (q_E_go hE hS (q_freep (List.Perm.refl _) hD hS hA)) (List.Perm.refl _) rfl rfl rfl hl.1 rfl (Nat.le_of_ble_eq_true rfl) dL_law_887 ⟨hc, hc2⟩ (fun u H locs hP hD hS => ?_)
      have hP : va_P D vwCl (((wX w o hs pd sl) ++ (wT cI o a t) ++ (wH cI cT hs hst_ ta ca hh) ++ (wPd cI pd sg nm pp)) ++ (wSl cI cT sl x0 (none : Option (Nat × Nat × TT))) ++ (wM cI cZ mo b mm)) H := hP.perm (sq1n ((wX w o hs pd sl) ++ (wT cI o a t) ++ (wH cI cT hs hst_ ta ca hh) ++ (wPd cI pd sg nm pp)) (wA cT sl (fun j => if j = 0 then adr x0 else none)) (part cI x0) (wM cI cZ mo b mm)).symm
      have hD : va_D (fun q : Nat => s.heap.size ≤ q) (((wX w o hs pd sl) ++ (wT cI o a t) ++ (wH cI cT hs hst_ ta ca hh) ++ (wPd cI pd sg nm pp)) ++ (wSl cI cT sl x0 (none : Option (Nat × Nat × TT))) ++ (wM cI cZ mo b mm)) := hD.perm (sq1n ((wX w o hs pd sl) ++ (wT cI o a t) ++ (wH cI cT hs hst_ ta ca hh) ++ (wPd cI pd sg nm pp)) (wA cT sl (fun j => if j = 0 then adr x0 else none)) (part cI x0) (wM cI cZ mo b mm)).symm
      refine lv_aload_n hx hb dL_law_890 rfl (lv_at hl 2 rfl) ?_
      refine lv_aload_n hx hb dL_law_891 rfl (lv_at hl 0 rfl) ?_
      refine lv_iload_n hx hb dL_law_892 rfl (lv_at hl 3 rfl) ?_
      refine lv_iconst (v := 1) hx hb dL_law_893 (by decide) ?_
      refine lv_iadd hx hb dL_law_894 ?_
      rw [show nI (4 * k) + 1 = nI (4 * k + 1) from nI_add _ _]
      refine va_sld hx hb hX hbl hbA hS hi1 dL_law_895 ?_
      rw [← ey1]
      refine x_MVp (As := [.int (1 : Int32)]) (rest := [.int (-5)]) (wr := ((wX w o hs pd sl) ++ (wT cI o a t) ++ (wH cI cT hs hst_ ta ca hh) ++ (wPd cI pd sg nm pp)) ++ (wSl cI cT sl x0 (none : Option (Nat × Nat × TT)))) (W1 := ((wX w o hs pd sl) ++ (wT cI o a t) ++ (wH cI cT hs hst_ ta ca hh) ++ (wPd cI pd sg nm pp)) ++ (wSl cI cT sl x0 (none : Option (Nat × Nat × TT))) ++ (wM cI cZ mo b z.2)) hF (c_X4_restore l D cI cZ cT _ mo b mm (1 : Int32) z hz) (cwV 1 hts (gqV mw_796 mw_797 mw_798 mw_428 mw_619) rfl rfl rfl hd_X4_restore ⟨Nat.le_of_ble_eq_true rfl, Nat.le_of_ble_eq_true rfl⟩) hK hP hD hS hA q_T_bl (fun _ _ _ => (trivial : True)) (List.Perm.refl _) (List.Perm.refl _) rfl rfl rfl hl.1 rfl (Nat.le_of_ble_eq_true rfl) dL_law_896 ⟨hc, hc2⟩ (fun H locs hP hD hS => ?_)
      refine lv_icmp_eq (tgt := 904) hx hb dL_law_899 (by decide) (fun c9 => ?_) (fun c9 => ?_)
      · exact kk _ _ _ x0 (none : Option (Nat × Nat × TT)) _ hJ1 H locs ls hP hD hS hl
      · exact absurd hv c9
    · have hr : f_back t hh (some t3) = some r := hr
      rw [f_back] at hr
      have hP : va_P D vwCl ((wM cI cZ mo b mm) ++ (((wX w o hs pd sl) ++ (wT cI o a t) ++ (wH cI cT hs hst_ ta ca hh) ++ (wPd cI pd sg nm pp)) ++ (wA cT sl (fun j => if j = 0 then adr x0 else some o3)) ++ (wT cI o3 a3 t3) ++ (part cI x0))) H := hP.perm (sq1s ((wX w o hs pd sl) ++ (wT cI o a t) ++ (wH cI cT hs hst_ ta ca hh) ++ (wPd cI pd sg nm pp)) (wA cT sl (fun j => if j = 0 then adr x0 else some o3)) (wT cI o3 a3 t3) (part cI x0) (wM cI cZ mo b mm))
      have hD : va_D (fun q : Nat => s.heap.size ≤ q) ((wM cI cZ mo b mm) ++ (((wX w o hs pd sl) ++ (wT cI o a t) ++ (wH cI cT hs hst_ ta ca hh) ++ (wPd cI pd sg nm pp)) ++ (wA cT sl (fun j => if j = 0 then adr x0 else some o3)) ++ (wT cI o3 a3 t3) ++ (part cI x0))) := hD.perm (sq1s ((wX w o hs pd sl) ++ (wT cI o a t) ++ (wH cI cT hs hst_ ta ca hh) ++ (wPd cI pd sg nm pp)) (wA cT sl (fun j => if j = 0 then adr x0 else some o3)) (wT cI o3 a3 t3) (part cI x0) (wM cI cZ mo b mm))
      obtain ⟨h1, hn, hr⟩ := bE hr
      obtain ⟨v4, h4, hr⟩ := bE hr
      obtain ⟨z5, h5, hr⟩ := bE hr
      cases hr
      refine x_MGp (As := [.int 1]) (rest := []) (wr := wM cI cZ mo b mm) (wc := ((wX w o hs pd sl) ++ (wT cI o a t) ++ (wH cI cT hs hst_ ta ca hh) ++ (wPd cI pd sg nm pp)) ++ (wA cT sl (fun j => if j = 0 then adr x0 else some o3)) ++ (wT cI o3 a3 t3) ++ (part cI x0)) hF (c_X3_restore_1s l D cI cZ cT G _ w sl o a t hs hst_ ta ca hh pd sg nm pp (adr x0) (part cI x0) o3 a3 t3 v4 h1 z5 hn h4 h5) (cwV 1 hts (gqV mw_793 mw_794 mw_795 mw_51 mw_411) rfl rfl rfl hd_X3_restore ⟨Nat.le_of_ble_eq_true rfl, Nat.le_of_ble_eq_true rfl⟩) hK hP hD hS hA q_E_bl (q_E_go hE hS (q_freep (List.Perm.refl _) hD hS hA)) (List.Perm.refl _) rfl rfl rfl hl.1 rfl (Nat.le_of_ble_eq_true rfl) dL_law_887 ⟨hc, hc2⟩ (fun u H locs hP hD hS => ?_)
      have hP : va_P D vwCl (((wX w o hs pd sl) ++ (wT cI o a v4) ++ (wH cI cT hs hst_ ta ca z5.2) ++ (wPd cI pd sg nm pp)) ++ (wSl cI cT sl x0 (some (o3, a3, t3))) ++ (wM cI cZ mo b mm)) H := hP.perm (sq1s ((wX w o hs pd sl) ++ (wT cI o a v4) ++ (wH cI cT hs hst_ ta ca z5.2) ++ (wPd cI pd sg nm pp)) (wA cT sl (fun j => if j = 0 then adr x0 else some o3)) (wT cI o3 a3 t3) (part cI x0) (wM cI cZ mo b mm)).symm
      have hD : va_D (fun q : Nat => s.heap.size ≤ q) (((wX w o hs pd sl) ++ (wT cI o a v4) ++ (wH cI cT hs hst_ ta ca z5.2) ++ (wPd cI pd sg nm pp)) ++ (wSl cI cT sl x0 (some (o3, a3, t3))) ++ (wM cI cZ mo b mm)) := hD.perm (sq1s ((wX w o hs pd sl) ++ (wT cI o a v4) ++ (wH cI cT hs hst_ ta ca z5.2) ++ (wPd cI pd sg nm pp)) (wA cT sl (fun j => if j = 0 then adr x0 else some o3)) (wT cI o3 a3 t3) (part cI x0) (wM cI cZ mo b mm)).symm
      refine lv_aload_n hx hb dL_law_890 rfl (lv_at hl 2 rfl) ?_
      refine lv_aload_n hx hb dL_law_891 rfl (lv_at hl 0 rfl) ?_
      refine lv_iload_n hx hb dL_law_892 rfl (lv_at hl 3 rfl) ?_
      refine lv_iconst (v := 1) hx hb dL_law_893 (by decide) ?_
      refine lv_iadd hx hb dL_law_894 ?_
      rw [show nI (4 * k) + 1 = nI (4 * k + 1) from nI_add _ _]
      refine va_sld hx hb hX hbl hbA hS hi1 dL_law_895 ?_
      rw [← ey1]
      refine x_MVp (As := [.int (1 : Int32)]) (rest := [.int z5.1]) (wr := ((wX w o hs pd sl) ++ (wT cI o a v4) ++ (wH cI cT hs hst_ ta ca z5.2) ++ (wPd cI pd sg nm pp)) ++ (wSl cI cT sl x0 (some (o3, a3, t3)))) (W1 := ((wX w o hs pd sl) ++ (wT cI o a v4) ++ (wH cI cT hs hst_ ta ca z5.2) ++ (wPd cI pd sg nm pp)) ++ (wSl cI cT sl x0 (some (o3, a3, t3))) ++ (wM cI cZ mo b z.2)) hF (c_X4_restore l D cI cZ cT _ mo b mm (1 : Int32) z hz) (cwV 1 hts (gqV mw_796 mw_797 mw_798 mw_428 mw_619) rfl rfl rfl hd_X4_restore ⟨Nat.le_of_ble_eq_true rfl, Nat.le_of_ble_eq_true rfl⟩) hK hP hD hS hA q_T_bl (fun _ _ _ => (trivial : True)) (List.Perm.refl _) (List.Perm.refl _) rfl rfl rfl hl.1 rfl (Nat.le_of_ble_eq_true rfl) dL_law_896 ⟨hc, hc2⟩ (fun H locs hP hD hS => ?_)
      refine lv_icmp_eq (tgt := 904) hx hb dL_law_899 (by decide) (fun c9 => ?_) (fun c9 => ?_)
      · exact kk _ _ _ x0 (some (o3, a3, t3)) _ hJ1 H locs ls hP hD hS hl
      · exact absurd hv c9
  rw [f_X3_restore, if_neg c0, if_neg c1] at hr
  obtain ⟨zb, hkb, hr⟩ := bE hr
  by_cases c2 : zb = 0
  · have hr := xt c2 hr
    subst c2
    cases hr
    have hP : va_P D vwCl ((wM cI cZ mo b mm) ++ (((wX w o hs pd sl) ++ (wT cI o a t) ++ (wH cI cT hs hst_ ta ca hh) ++ (wPd cI pd sg nm pp)) ++ (wA cT sl (fun j => if j = 0 then adr x0 else adr x1)) ++ ((part cI x0) ++ (part cI x1)))) H := hP.perm (sqb ((wX w o hs pd sl) ++ (wT cI o a t) ++ (wH cI cT hs hst_ ta ca hh) ++ (wPd cI pd sg nm pp)) (wA cT sl (fun j => if j = 0 then adr x0 else adr x1)) (part cI x0) (part cI x1) (wM cI cZ mo b mm))
    have hD : va_D (fun q : Nat => s.heap.size ≤ q) ((wM cI cZ mo b mm) ++ (((wX w o hs pd sl) ++ (wT cI o a t) ++ (wH cI cT hs hst_ ta ca hh) ++ (wPd cI pd sg nm pp)) ++ (wA cT sl (fun j => if j = 0 then adr x0 else adr x1)) ++ ((part cI x0) ++ (part cI x1)))) := hD.perm (sqb ((wX w o hs pd sl) ++ (wT cI o a t) ++ (wH cI cT hs hst_ ta ca hh) ++ (wPd cI pd sg nm pp)) (wA cT sl (fun j => if j = 0 then adr x0 else adr x1)) (part cI x0) (part cI x1) (wM cI cZ mo b mm))
    refine x_MGp (As := [.int y1]) (rest := []) (wr := wM cI cZ mo b mm) (wc := ((wX w o hs pd sl) ++ (wT cI o a t) ++ (wH cI cT hs hst_ ta ca hh) ++ (wPd cI pd sg nm pp)) ++ (wA cT sl (fun j => if j = 0 then adr x0 else adr x1)) ++ ((part cI x0) ++ (part cI x1))) hF (c_X3_restore_bad l D cI cZ cT G _ w sl o a t hs hst_ ta ca hh pd sg nm pp (fun j => if j = 0 then adr x0 else adr x1) ((part cI x0) ++ (part cI x1)) y1 hkb) (cwV 1 hts (gqV mw_793 mw_794 mw_795 mw_51 mw_411) rfl rfl rfl hd_X3_restore ⟨Nat.le_of_ble_eq_true rfl, Nat.le_of_ble_eq_true rfl⟩) hK hP hD hS hA q_E_bl (q_E_go hE hS (q_freep (List.Perm.refl _) hD hS hA)) (List.Perm.refl _) rfl rfl rfl hl.1 rfl (Nat.le_of_ble_eq_true rfl) dL_law_887 ⟨hc, hc2⟩ (fun u H locs hP hD hS => ?_)
    have hP : va_P D vwCl (((wX w o hs pd sl) ++ (wT cI o a t) ++ (wH cI cT hs hst_ ta ca hh) ++ (wPd cI pd sg nm pp)) ++ (wSl cI cT sl x0 x1) ++ (wM cI cZ mo b mm)) H := hP.perm (sqb ((wX w o hs pd sl) ++ (wT cI o a t) ++ (wH cI cT hs hst_ ta ca hh) ++ (wPd cI pd sg nm pp)) (wA cT sl (fun j => if j = 0 then adr x0 else adr x1)) (part cI x0) (part cI x1) (wM cI cZ mo b mm)).symm
    have hD : va_D (fun q : Nat => s.heap.size ≤ q) (((wX w o hs pd sl) ++ (wT cI o a t) ++ (wH cI cT hs hst_ ta ca hh) ++ (wPd cI pd sg nm pp)) ++ (wSl cI cT sl x0 x1) ++ (wM cI cZ mo b mm)) := hD.perm (sqb ((wX w o hs pd sl) ++ (wT cI o a t) ++ (wH cI cT hs hst_ ta ca hh) ++ (wPd cI pd sg nm pp)) (wA cT sl (fun j => if j = 0 then adr x0 else adr x1)) (part cI x0) (part cI x1) (wM cI cZ mo b mm)).symm
    refine lv_aload_n hx hb dL_law_890 rfl (lv_at hl 2 rfl) ?_
    refine lv_aload_n hx hb dL_law_891 rfl (lv_at hl 0 rfl) ?_
    refine lv_iload_n hx hb dL_law_892 rfl (lv_at hl 3 rfl) ?_
    refine lv_iconst (v := 1) hx hb dL_law_893 (by decide) ?_
    refine lv_iadd hx hb dL_law_894 ?_
    rw [show nI (4 * k) + 1 = nI (4 * k + 1) from nI_add _ _]
    refine va_sld hx hb hX hbl hbA hS hi1 dL_law_895 ?_
    rw [← ey1]
    refine x_MVp (As := [.int y1]) (rest := [.int (-2)]) (wr := ((wX w o hs pd sl) ++ (wT cI o a t) ++ (wH cI cT hs hst_ ta ca hh) ++ (wPd cI pd sg nm pp)) ++ (wSl cI cT sl x0 x1)) (W1 := ((wX w o hs pd sl) ++ (wT cI o a t) ++ (wH cI cT hs hst_ ta ca hh) ++ (wPd cI pd sg nm pp)) ++ (wSl cI cT sl x0 x1) ++ (wM cI cZ mo b z.2)) hF (c_X4_restore l D cI cZ cT _ mo b mm y1 z hz) (cwV 1 hts (gqV mw_796 mw_797 mw_798 mw_428 mw_619) rfl rfl rfl hd_X4_restore ⟨Nat.le_of_ble_eq_true rfl, Nat.le_of_ble_eq_true rfl⟩) hK hP hD hS hA q_T_bl (fun _ _ _ => (trivial : True)) (List.Perm.refl _) (List.Perm.refl _) rfl rfl rfl hl.1 rfl (Nat.le_of_ble_eq_true rfl) dL_law_896 ⟨hc, hc2⟩ (fun H locs hP hD hS => ?_)
    refine lv_icmp_eq (tgt := 904) hx hb dL_law_899 (by decide) (fun c9 => ?_) (fun c9 => ?_)
    · exact kk _ _ _ x0 x1 _ hJ1 H locs ls hP hD hS hl
    · exact absurd hv c9
  exact absurd (xf c2 hr) (by simp)
end G_LX
section G_LY
variable {p : Program} {l : Launch} {e : Env} {s : State} {m : MethodId} {args : Array Value} {below : List Frame} {meth : Method} {c : Code} {D : va_G} {cI cZ cT : ClassId}

set_option maxHeartbeats 8000000 in
set_option maxRecDepth 100000 in
theorem law_loop {G : q_G} {bs L : Nat} {xs : Nat → Int32} (J : JT) (hst : Steps J) (hL : L ≤ 2048) (hargs : args = #[Value.ref bs]) (C0 : q_At p s m args meth c code 4 ret RL) (hK : va_K D vwCl (q_tys cI cZ cT) s) (hA : ∀ q, s.heap.size ≤ q → (fun q : Nat => s.heap.size ≤ q) q) (hE : q_E G (fun q : Nat => s.heap.size ≤ q) s) (hX : va_X bs L xs s s.heap) (hbl : bs < s.heap.size) (hbA : ¬ (fun q : Nat => s.heap.size ≤ q) bs) (w sl o a : Nat) (hs hst_ : Nat) (ta ca : Nat → Nat) (pd sg nm mo : Nat) (b : Nat → Nat) : ∀ (d k : Nat), 513 ≤ k + d → k ≤ 512 → ∀ (x0 x1 : Option (Nat × Nat × TT)) (t : TT) (hh : HH) (pp : PP) (mm : MM), J k t hh pp (twn x0) (twn x1) mm → ∀ (H : Heap) (locs : List Loc) (ls : Array Slot), va_P D vwCl (((wX w o hs pd sl) ++ (wT cI o a t) ++ (wH cI cT hs hst_ ta ca hh) ++ (wPd cI pd sg nm pp)) ++ (wSl cI cT sl x0 x1) ++ (wM cI cZ mo b mm)) H → va_D (fun q : Nat => s.heap.size ≤ q) (((wX w o hs pd sl) ++ (wT cI o a t) ++ (wH cI cT hs hst_ ta ca hh) ++ (wPd cI pd sg nm pp)) ++ (wSl cI cT sl x0 x1) ++ (wM cI cZ mo b mm)) → va_S (fun q : Nat => s.heap.size ≤ q) s.heap H locs → lv_has ls 4 [(0, .ref bs), (1, .ref w), (2, .ref mo), (3, .int (nI (4 * k)))] → W p l e room_1 s m args below meth c H locs (30 + 2 * k) (3463 + 182 * k) (lw_Z below args s) (F0 m 18 ls []) := by
  obtain ⟨hx, hb, hr0, hml, hown, hts, hlocks⟩ := id C0
  obtain ⟨u0, u1, u2, u3, u4, u5, u6, u7, u8, u9, u10, u11, u12, u13, u14, u15, u16, u17, u18, u19, u20, u21, u22, u23, u24, u25, u26, u27, u28⟩ := hst
  intro d
  induction d with
  | zero => intro k h1 h2; omega
  | succ d ih =>
    intro k hkd hk x0 x1 t hh pp mm hJ H locs ls hP hD hS hl
    refine lv_iload_n hx hb dL_law_18 rfl (lv_at hl 3 rfl) ?_
    refine lv_aload_n hx hb dL_law_19 rfl (lv_at hl 0 rfl) ?_
    refine va_slen hx hb hX hbl hbA hS dL_law_20 ?_
    refine lv_iconst (v := 4) hx hb dL_law_21 (by decide) ?_
    refine lv_isub hx hb dL_law_22 ?_
    have e4 : (nI L - 4).toInt = (L : Int) - 4 := by rw [show (4 : Int32) = nI 4 from rfl]; exact pk_sub_toInt (by omega) (by omega)
    have ek : (nI (4 * k)).toInt = ((4 * k : Nat) : Int) := nI_toInt (by omega)
    refine lv_icmp_gt (tgt := 910) hx hb dL_law_23 (by decide) (fun c9 => ?_) (fun c9 => ?_)
    · refine va_forget (locs := locs) (fun x hx9 => hS.2.2 x hx9) ?_
      refine W.widen (k := 600000) (n := 7302250) (by omega) (by omega) ?_
      refine lv_iconst (v := 1) hx hb dL_law_910 (by decide) ?_
      subst hargs
      exact lw_ret hx hb hr0 hlocks dL_law_911
    · have h9 : 4 * k + 4 ≤ L := by
        have h8 : nI (4 * k) ≤ nI L - 4 := Int32.not_lt.mp c9
        rw [Int32.le_iff_toInt_le, e4, ek] at h8
        omega
      have hk512 : k < 512 := by omega
      have hi0 : vp_in (nI (4 * k + 0)) L := vp_in_nI (by omega) (by omega)
      have hi1 : vp_in (nI (4 * k + 1)) L := vp_in_nI (by omega) (by omega)
      have hi2 : vp_in (nI (4 * k + 2)) L := vp_in_nI (by omega) (by omega)
      have hi3 : vp_in (nI (4 * k + 3)) L := vp_in_nI (by omega) (by omega)
      have hnext : ∀ (t : TT) (hh : HH) (pp : PP) (x0 x1 : Option (Nat × Nat × TT)) (mm : MM), J (k + 1) t hh pp (twn x0) (twn x1) mm → ∀ (H : Heap) (locs : List Loc) (ls : Array Slot), va_P D vwCl (((wX w o hs pd sl) ++ (wT cI o a t) ++ (wH cI cT hs hst_ ta ca hh) ++ (wPd cI pd sg nm pp)) ++ (wSl cI cT sl x0 x1) ++ (wM cI cZ mo b mm)) H → va_D (fun q : Nat => s.heap.size ≤ q) (((wX w o hs pd sl) ++ (wT cI o a t) ++ (wH cI cT hs hst_ ta ca hh) ++ (wPd cI pd sg nm pp)) ++ (wSl cI cT sl x0 x1) ++ (wM cI cZ mo b mm)) → va_S (fun q : Nat => s.heap.size ≤ q) s.heap H locs → lv_has ls 4 [(0, .ref bs), (1, .ref w), (2, .ref mo), (3, .int (nI (4 * k)))] → W p l e room_1 s m args below meth c H locs (30 + 2 * k + 2) (3463 + 182 * k + 182) (lw_Z below args s) (F0 m 904 ls []) := by
        intro t hh pp x0 x1 mm hJ H locs ls hP hD hS hl
        refine lv_iinc (v := nI (4 * (k + 1))) (lv' := [(3, .int (nI (4 * (k + 1)))), (0, .ref bs), (1, .ref w), (2, .ref mo)]) hx hb dL_law_904 hl (k := 3) rfl (by rw [show Int32.ofInt 4 = nI 4 from rfl, nI_add]; rfl) (by decide) rfl (fun ls hl => ?_)
        refine lv_goto (tgt := 18) hx hb dL_law_907 (by decide) ?_
        have := ih (k + 1) (by omega) (by omega) x0 x1 t hh pp mm hJ H locs ls hP hD hS (lv_sub hl [1, 2, 3, 0] rfl)
        rw [show 30 + 2 * (k + 1) = 30 + 2 * k + 2 by omega, show 3463 + 182 * (k + 1) = 3463 + 182 * k + 182 by omega] at this
        exact this
      have hnx2 : ∀ (t : TT) (hh : HH) (pp : PP) (x0 x1 : Option (Nat × Nat × TT)) (mm : MM), J (k + 1) t hh pp (twn x0) (twn x1) mm → ∀ (H : Heap) (locs : List Loc) (ls : Array Slot), va_P D vwCl (((wX w o hs pd sl) ++ (wT cI o a t) ++ (wH cI cT hs hst_ ta ca hh) ++ (wPd cI pd sg nm pp)) ++ (wSl cI cT sl x0 x1) ++ (wM cI cZ mo b mm)) H → va_D (fun q : Nat => s.heap.size ≤ q) (((wX w o hs pd sl) ++ (wT cI o a t) ++ (wH cI cT hs hst_ ta ca hh) ++ (wPd cI pd sg nm pp)) ++ (wSl cI cT sl x0 x1) ++ (wM cI cZ mo b mm)) → va_S (fun q : Nat => s.heap.size ≤ q) s.heap H locs → lv_has ls 4 [(0, .ref bs), (1, .ref w), (2, .ref mo), (3, .int (nI (4 * k)))] → W p l e room_1 s m args below meth c H locs (30 + 2 * k) (3463 + 182 * k) (lw_Z below args s) (F0 m 904 ls []) := fun t hh pp x0 x1 mm hJ H locs ls hP hD hS hl => W.widen (k := 30 + 2 * k + 2) (n := 3463 + 182 * k + 182) (by omega) (by omega) (hnext t hh pp x0 x1 mm hJ H locs ls hP hD hS hl)
      have hc : 30 + 2 * k + 2 ≤ room_1.cells := by show 30 + 2 * k + 2 ≤ 600000; omega
      have hc2 : 3463 + 182 * k + 182 ≤ room_1.slots := by show 3463 + 182 * k + 182 ≤ 7302250; omega
      have hc3 : 30 + 2 * k ≤ room_1.cells := by show 30 + 2 * k ≤ 600000; omega
      have hc4 : 3463 + 182 * k ≤ room_1.slots := by show 3463 + 182 * k ≤ 7302250; omega
      refine lv_aload_n hx hb dL_law_26 rfl (lv_at hl 0 rfl) ?_
      refine lv_iload_n hx hb dL_law_27 rfl (lv_at hl 3 rfl) ?_
      refine va_sld hx hb hX hbl hbA hS hi0 dL_law_28 ?_
      refine lv_bipush (v := 31) hx hb dL_law_29 (by decide) ?_
      refine lv_iand hx hb dL_law_31 ?_
      obtain ⟨j, hj, ej⟩ := pk_andE (xs (nI (4 * k)).toNatClampNeg) (m := 31) 5 (by decide)
      rw [ej]
      have hj : j < 32 := hj
      clear ej
      by_cases hj28 : 28 ≤ j
      · refine lv_tableOut (tgt := 904) hx hb dL_law_32 (Or.inr (by rw [nI_toInt (by omega)]; omega)) (by decide) ?_
        exact hnx2 t hh pp x0 x1 mm (u28 k t hh pp (twn x0) (twn x1) mm hk512 hJ) H locs ls hP hD hS hl
      · rcases (show j = 0 ∨ j = 1 ∨ j = 2 ∨ j = 3 ∨ j = 4 ∨ j = 5 ∨ j = 6 ∨ j = 7 ∨ j = 8 ∨ j = 9 ∨ j = 10 ∨ j = 11 ∨ j = 12 ∨ j = 13 ∨ j = 14 ∨ j = 15 ∨ j = 16 ∨ j = 17 ∨ j = 18 ∨ j = 19 ∨ j = 20 ∨ j = 21 ∨ j = 22 ∨ j = 23 ∨ j = 24 ∨ j = 25 ∨ j = 26 ∨ j = 27 by omega) with rfl | rfl | rfl | rfl | rfl | rfl | rfl | rfl | rfl | rfl | rfl | rfl | rfl | rfl | rfl | rfl | rfl | rfl | rfl | rfl | rfl | rfl | rfl | rfl | rfl | rfl | rfl | rfl
        · refine lv_tableIn (tgt := 160) (off := 128) hx hb dL_law_32 (by decide) (by decide) (by rfl) (by decide) ?_
          exact lc_set J u0 C0 hK hA hE hX hbl hbA k hk512 hi1 hi2 hi3 hc3 hc4 w sl o a hs hst_ ta ca pd sg nm mo b x0 x1 t hh pp mm hJ hnx2 H locs ls hP hD hS hl
        · refine lv_tableIn (tgt := 193) (off := 161) hx hb dL_law_32 (by decide) (by decide) (by rfl) (by decide) ?_
          exact lc_person J u1 C0 hK hA hE hX hbl hbA k hk512 hi1 hi2 hi3 hc3 hc4 w sl o a hs hst_ ta ca pd sg nm mo b x0 x1 t hh pp mm hJ hnx2 H locs ls hP hD hS hl
        · refine lv_tableIn (tgt := 226) (off := 194) hx hb dL_law_32 (by decide) (by decide) (by rfl) (by decide) ?_
          exact lc_second J u2 C0 hK hA hE hX hbl hbA k hk512 hi1 hi2 hi3 hc3 hc4 w sl o a hs hst_ ta ca pd sg nm mo b x0 x1 t hh pp mm hJ hnx2 H locs ls hP hD hS hl
        · refine lv_tableIn (tgt := 259) (off := 227) hx hb dL_law_32 (by decide) (by decide) (by rfl) (by decide) ?_
          exact lc_allow J u3 C0 hK hA hE hX hbl hbA k hk512 hi1 hi2 hi3 hc3 hc4 w sl o a hs hst_ ta ca pd sg nm mo b x0 x1 t hh pp mm hJ hnx2 H locs ls hP hD hS hl
        · refine lv_tableIn (tgt := 282) (off := 250) hx hb dL_law_32 (by decide) (by decide) (by rfl) (by decide) ?_
          exact lc_insult J u4 C0 hK hA hE hX hbl hbA k hk512 hi1 hi2 hi3 hc3 hc4 w sl o a hs hst_ ta ca pd sg nm mo b x0 x1 t hh pp mm hJ hnx2 H locs ls hP hD hS hl
        · refine lv_tableIn (tgt := 325) (off := 293) hx hb dL_law_32 (by decide) (by decide) (by rfl) (by decide) ?_
          exact lc_settle J u5 C0 hK hA hE hX hbl hbA k hk512 hi1 hi2 hi3 hc3 hc4 w sl o a hs hst_ ta ca pd sg nm mo b x0 x1 t hh pp mm hJ hnx2 H locs ls hP hD hS hl
        · refine lv_tableIn (tgt := 358) (off := 326) hx hb dL_law_32 (by decide) (by decide) (by rfl) (by decide) ?_
          exact lc_fight J u6 C0 hK hA hE hX hbl hbA k hk512 hi1 hi2 hi3 hc3 hc4 w sl o a hs hst_ ta ca pd sg nm mo b x0 x1 t hh pp mm hJ hnx2 H locs ls hP hD hS hl
        · refine lv_tableIn (tgt := 381) (off := 349) hx hb dL_law_32 (by decide) (by decide) (by rfl) (by decide) ?_
          exact lc_swear J u7 C0 hK hA hE hX hbl hbA k hk512 hi1 hi2 hi3 hc3 hc4 w sl o a hs hst_ ta ca pd sg nm mo b x0 x1 t hh pp mm hJ hnx2 H locs ls hP hD hS hl
        · refine lv_tableIn (tgt := 404) (off := 372) hx hb dL_law_32 (by decide) (by decide) (by rfl) (by decide) ?_
          exact lc_pass J u8 C0 hK hA hE hX hbl hbA k hk512 hi1 hi2 hi3 hc3 hc4 w sl o a hs hst_ ta ca pd sg nm mo b x0 x1 t hh pp mm hJ hnx2 H locs ls hP hD hS hl
        · refine lv_tableIn (tgt := 427) (off := 395) hx hb dL_law_32 (by decide) (by decide) (by rfl) (by decide) ?_
          exact lc_of J u9 C0 hK hA hE hX hbl hbA k hk512 hi1 hi2 hi3 hc3 hc4 w sl o a hs hst_ ta ca pd sg nm mo b x0 x1 t hh pp mm hJ hnx2 H locs ls hP hD hS hl
        · refine lv_tableIn (tgt := 460) (off := 428) hx hb dL_law_32 (by decide) (by decide) (by rfl) (by decide) ?_
          exact lc_quarrel J u10 C0 hK hA hE hX hbl hbA k hk512 hi1 hi2 hi3 hc3 hc4 w sl o a hs hst_ ta ca pd sg nm mo b x0 x1 t hh pp mm hJ hnx2 H locs ls hP hD hS hl
        · refine lv_tableIn (tgt := 493) (off := 461) hx hb dL_law_32 (by decide) (by decide) (by rfl) (by decide) ?_
          exact lc_record J u11 C0 hK hA hE hX hbl hbA k hk512 hi1 hi2 hi3 hc3 hc4 w sl o a hs hst_ ta ca pd sg nm mo b x0 x1 t hh pp mm hJ hnx2 H locs ls hP hD hS hl
        · refine lv_tableIn (tgt := 526) (off := 494) hx hb dL_law_32 (by decide) (by decide) (by rfl) (by decide) ?_
          exact lc_pressing J u12 C0 hK hA hE hX hbl hbA k hk512 hi1 hi2 hi3 hc3 hc4 w sl o a hs hst_ ta ca pd sg nm mo b x0 x1 t hh pp mm hJ hnx2 H locs ls hP hD hS hl
        · refine lv_tableIn (tgt := 549) (off := 517) hx hb dL_law_32 (by decide) (by decide) (by rfl) (by decide) ?_
          exact lc_insults J u13 C0 hK hA hE hX hbl hbA k hk512 hi1 hi2 hi3 hc3 hc4 w sl o a hs hst_ ta ca pd sg nm mo b x0 x1 t hh pp mm hJ hnx2 H locs ls hP hD hS hl
        · refine lv_tableIn (tgt := 572) (off := 540) hx hb dL_law_32 (by decide) (by decide) (by rfl) (by decide) ?_
          exact lc_count J u14 C0 hK hA hE hX hbl hbA k hk512 hi1 hi2 hi3 hc3 hc4 w sl o a hs hst_ ta ca pd sg nm mo b x0 x1 t hh pp mm hJ hnx2 H locs ls hP hD hS hl
        · refine lv_tableIn (tgt := 595) (off := 563) hx hb dL_law_32 (by decide) (by decide) (by rfl) (by decide) ?_
          exact lc_why J u15 C0 hK hA hE hX hbl hbA k hk512 hi1 hi2 hi3 hc3 hc4 w sl o a hs hst_ ta ca pd sg nm mo b x0 x1 t hh pp mm hJ hnx2 H locs ls hP hD hS hl
        · refine lv_tableIn (tgt := 618) (off := 586) hx hb dL_law_32 (by decide) (by decide) (by rfl) (by decide) ?_
          exact lc_firstWay J u16 C0 hK hA hE hX hbl hbA k hk512 hi1 hi2 hi3 hc3 hc4 w sl o a hs hst_ ta ca pd sg nm mo b x0 x1 t hh pp mm hJ hnx2 H locs ls hP hD hS hl
        · refine lv_tableIn (tgt := 641) (off := 609) hx hb dL_law_32 (by decide) (by decide) (by rfl) (by decide) ?_
          exact lc_opensIn J u17 C0 hK hA hE hX hbl hbA k hk512 hi1 hi2 hi3 hc3 hc4 w sl o a hs hst_ ta ca pd sg nm mo b x0 x1 t hh pp mm hJ hnx2 H locs ls hP hD hS hl
        · refine lv_tableIn (tgt := 664) (off := 632) hx hb dL_law_32 (by decide) (by decide) (by rfl) (by decide) ?_
          exact lc_dueIn J u18 C0 hK hA hE hX hbl hbA k hk512 hi1 hi2 hi3 hc3 hc4 w sl o a hs hst_ ta ca pd sg nm mo b x0 x1 t hh pp mm hJ hnx2 H locs ls hP hD hS hl
        · refine lv_tableIn (tgt := 687) (off := 655) hx hb dL_law_32 (by decide) (by decide) (by rfl) (by decide) ?_
          exact lc_ifInsulted J u19 C0 hK hA hE hX hbl hbA k hk512 hi1 hi2 hi3 hc3 hc4 w sl o a hs hst_ ta ca pd sg nm mo b x0 x1 t hh pp mm hJ hnx2 H locs ls hP hD hS hl
        · refine lv_tableIn (tgt := 730) (off := 698) hx hb dL_law_32 (by decide) (by decide) (by rfl) (by decide) ?_
          exact lc_ifFought J u20 C0 hK hA hE hX hbl hbA k hk512 hi1 hi2 hi3 hc3 hc4 w sl o a hs hst_ ta ca pd sg nm mo b x0 x1 t hh pp mm hJ hnx2 H locs ls hP hD hS hl
        · refine lv_tableIn (tgt := 753) (off := 721) hx hb dL_law_32 (by decide) (by decide) (by rfl) (by decide) ?_
          exact lc_put J u21 C0 hK hA hE hX hbl hbA k hk512 hi1 hi2 hi3 hc3 hc4 w sl o a hs hst_ ta ca pd sg nm mo b x0 x1 t hh pp mm hJ hnx2 H locs ls hP hD hS hl
        · refine lv_tableIn (tgt := 806) (off := 774) hx hb dL_law_32 (by decide) (by decide) (by rfl) (by decide) ?_
          exact lc_wipe J u22 C0 hK hA hE hX hbl hbA k hk512 hi1 hi2 hi3 hc3 hc4 w sl o a hs hst_ ta ca pd sg nm mo b x0 x1 t hh pp mm hJ hnx2 H locs ls hP hD hS hl
        · refine lv_tableIn (tgt := 819) (off := 787) hx hb dL_law_32 (by decide) (by decide) (by rfl) (by decide) ?_
          exact lc_fault J u23 C0 hK hA hE hX hbl hbA k hk512 hi1 hi2 hi3 hc3 hc4 w sl o a hs hst_ ta ca pd sg nm mo b x0 x1 t hh pp mm hJ hnx2 H locs ls hP hD hS hl
        · refine lv_tableIn (tgt := 832) (off := 800) hx hb dL_law_32 (by decide) (by decide) (by rfl) (by decide) ?_
          exact lc_carryOut J u24 C0 hK hA hE hX hbl hbA k hk512 hi1 hi2 hi3 hc3 hc4 w sl o a hs hst_ ta ca pd sg nm mo b x0 x1 t hh pp mm hJ hnx2 H locs ls hP hD hS hl
        · refine lv_tableIn (tgt := 845) (off := 813) hx hb dL_law_32 (by decide) (by decide) (by rfl) (by decide) ?_
          exact lc_undo J u25 C0 hK hA hE hX hbl hbA k hk512 hi1 hi2 hi3 hc3 hc4 w sl o a hs hst_ ta ca pd sg nm mo b x0 x1 t hh pp mm hJ hnx2 H locs ls hP hD hS hl
        · refine lv_tableIn (tgt := 858) (off := 826) hx hb dL_law_32 (by decide) (by decide) (by rfl) (by decide) ?_
          exact lc_save J u26 C0 hK hA hE hX hbl hbA k hk512 hi1 hc hc2 w sl o a hs hst_ ta ca pd sg nm mo b x0 x1 t hh pp mm hJ hnext H locs ls hP hD hS hl
        · refine lv_tableIn (tgt := 881) (off := 849) hx hb dL_law_32 (by decide) (by decide) (by rfl) (by decide) ?_
          exact lc_restore J u27 C0 hK hA hE hX hbl hbA k hk512 hi1 hc3 hc4 w sl o a hs hst_ ta ca pd sg nm mo b x0 x1 t hh pp mm hJ hnx2 H locs ls hP hD hS hl
end G_LY
section G_LZ
variable {p : Program} {l : Launch} {e : Env} {s : State} {m : MethodId} {args : Array Value} {below : List Frame} {meth : Method} {c : Code} {D : va_G} {cI cZ cT : ClassId}

set_option maxHeartbeats 4000000 in
set_option maxRecDepth 100000 in
theorem st_NN {b L : Nat} {xs : Nat → Int32} (hts : ∀ w ∈ lw_tbl, w.before #[Value.ref b] s = true) : q_NN s := ⟨List.forall_mem_cons.mpr ⟨va_Nw.of rfl (hts _ (List.mem_append_right _ (List.mem_append_left _ (List.mem_of_getElem? (i := 60) rfl)))), List.forall_mem_cons.mpr ⟨va_Nw.of rfl (hts _ (List.mem_append_right _ (List.mem_append_left _ (List.mem_of_getElem? (i := 132) rfl)))), List.forall_mem_cons.mpr ⟨va_Nw.of rfl (hts _ (List.mem_append_right _ (List.mem_append_left _ (List.mem_of_getElem? (i := 158) rfl)))), List.forall_mem_cons.mpr ⟨va_Nw.of rfl (hts _ (List.mem_append_right _ (List.mem_append_left _ (List.mem_of_getElem? (i := 23) rfl)))), List.forall_mem_cons.mpr ⟨va_Nw.of rfl (hts _ (List.mem_append_right _ (List.mem_append_left _ (List.mem_of_getElem? (i := 54) rfl)))), List.forall_mem_cons.mpr ⟨va_Nw.of rfl (hts _ (List.mem_append_right _ (List.mem_append_left _ (List.mem_of_getElem? (i := 74) rfl)))), List.forall_mem_cons.mpr ⟨va_Nw.of rfl (hts _ (List.mem_append_right _ (List.mem_append_left _ (List.mem_of_getElem? (i := 117) rfl)))), List.forall_mem_cons.mpr ⟨va_Nw.of rfl (hts _ (List.mem_append_right _ (List.mem_append_left _ (List.mem_of_getElem? (i := 142) rfl)))), List.forall_mem_cons.mpr ⟨va_Nw.of rfl (hts _ (List.mem_append_right _ (List.mem_append_left _ (List.mem_of_getElem? (i := 154) rfl)))), List.forall_mem_cons.mpr ⟨va_Nw.of rfl (hts _ (List.mem_append_right _ (List.mem_append_left _ (List.mem_of_getElem? (i := 165) rfl)))), List.forall_mem_cons.mpr ⟨va_Nw.of rfl (hts _ (List.mem_append_right _ (List.mem_append_left _ (List.mem_of_getElem? (i := 176) rfl)))), List.forall_mem_cons.mpr ⟨va_Nw.of rfl (hts _ (List.mem_append_right _ (List.mem_append_left _ (List.mem_of_getElem? (i := 188) rfl)))), List.forall_mem_cons.mpr ⟨va_Nw.of rfl (hts _ (List.mem_append_right _ (List.mem_append_left _ (List.mem_of_getElem? (i := 196) rfl)))), List.forall_mem_cons.mpr ⟨va_Nw.of rfl (hts _ (List.mem_append_right _ (List.mem_append_left _ (List.mem_of_getElem? (i := 227) rfl)))), List.forall_mem_cons.mpr ⟨va_Nw.of rfl (hts _ (List.mem_append_right _ (List.mem_append_right _ (List.mem_append_left _ (List.mem_of_getElem? (i := 38) rfl))))), List.forall_mem_cons.mpr ⟨va_Nw.of rfl (hts _ (List.mem_append_right _ (List.mem_append_right _ (List.mem_append_left _ (List.mem_of_getElem? (i := 62) rfl))))), List.forall_mem_cons.mpr ⟨va_Nw.of rfl (hts _ (List.mem_append_right _ (List.mem_append_right _ (List.mem_append_left _ (List.mem_of_getElem? (i := 70) rfl))))), List.forall_mem_cons.mpr ⟨va_Nw.of rfl (hts _ (List.mem_append_right _ (List.mem_append_right _ (List.mem_append_left _ (List.mem_of_getElem? (i := 75) rfl))))), List.forall_mem_cons.mpr ⟨va_Nw.of rfl (hts _ (List.mem_append_right _ (List.mem_append_right _ (List.mem_append_left _ (List.mem_of_getElem? (i := 89) rfl))))), List.forall_mem_cons.mpr ⟨va_Nw.of rfl (hts _ (List.mem_append_right _ (List.mem_append_right _ (List.mem_append_left _ (List.mem_of_getElem? (i := 105) rfl))))), List.forall_mem_cons.mpr ⟨va_Nw.of rfl (hts _ (List.mem_append_right _ (List.mem_append_right _ (List.mem_append_left _ (List.mem_of_getElem? (i := 113) rfl))))), List.forall_mem_cons.mpr ⟨va_Nw.of rfl (hts _ (List.mem_append_right _ (List.mem_append_right _ (List.mem_append_left _ (List.mem_of_getElem? (i := 121) rfl))))), List.forall_mem_cons.mpr ⟨va_Nw.of rfl (hts _ (List.mem_append_right _ (List.mem_append_right _ (List.mem_append_left _ (List.mem_of_getElem? (i := 137) rfl))))), List.forall_mem_cons.mpr ⟨va_Nw.of rfl (hts _ (List.mem_append_right _ (List.mem_append_right _ (List.mem_append_left _ (List.mem_of_getElem? (i := 145) rfl))))), List.forall_mem_cons.mpr ⟨va_Nw.of rfl (hts _ (List.mem_append_right _ (List.mem_append_right _ (List.mem_append_left _ (List.mem_of_getElem? (i := 162) rfl))))), List.forall_mem_cons.mpr ⟨va_Nw.of rfl (hts _ (List.mem_append_right _ (List.mem_append_right _ (List.mem_append_left _ (List.mem_of_getElem? (i := 163) rfl))))), List.forall_mem_cons.mpr ⟨va_Nw.of rfl (hts _ (List.mem_append_right _ (List.mem_append_right _ (List.mem_append_left _ (List.mem_of_getElem? (i := 164) rfl))))), List.forall_mem_cons.mpr ⟨va_Nw.of rfl (hts _ (List.mem_append_right _ (List.mem_append_right _ (List.mem_append_left _ (List.mem_of_getElem? (i := 169) rfl))))), List.forall_mem_cons.mpr ⟨va_Nw.of rfl (hts _ (List.mem_append_right _ (List.mem_append_right _ (List.mem_append_left _ (List.mem_of_getElem? (i := 176) rfl))))), List.forall_mem_cons.mpr ⟨va_Nw.of rfl (hts _ (List.mem_append_right _ (List.mem_append_right _ (List.mem_append_left _ (List.mem_of_getElem? (i := 177) rfl))))), List.forall_mem_cons.mpr ⟨va_Nw.of rfl (hts _ (List.mem_append_right _ (List.mem_append_right _ (List.mem_append_left _ (List.mem_of_getElem? (i := 196) rfl))))), List.forall_mem_cons.mpr ⟨va_Nw.of rfl (hts _ (List.mem_append_right _ (List.mem_append_right _ (List.mem_append_left _ (List.mem_of_getElem? (i := 204) rfl))))), List.forall_mem_cons.mpr ⟨va_Nw.of rfl (hts _ (List.mem_append_right _ (List.mem_append_right _ (List.mem_append_left _ (List.mem_of_getElem? (i := 205) rfl))))), List.forall_mem_cons.mpr ⟨va_Nw.of rfl (hts _ (List.mem_append_right _ (List.mem_append_right _ (List.mem_append_left _ (List.mem_of_getElem? (i := 210) rfl))))), List.forall_mem_cons.mpr ⟨va_Nw.of rfl (hts _ (List.mem_append_right _ (List.mem_append_right _ (List.mem_append_left _ (List.mem_of_getElem? (i := 215) rfl))))), List.forall_mem_cons.mpr ⟨va_Nw.of rfl (hts _ (List.mem_append_right _ (List.mem_append_right _ (List.mem_append_left _ (List.mem_of_getElem? (i := 221) rfl))))), List.forall_mem_cons.mpr ⟨va_Nw.of rfl (hts _ (List.mem_append_right _ (List.mem_append_right _ (List.mem_append_left _ (List.mem_of_getElem? (i := 237) rfl))))), List.forall_mem_cons.mpr ⟨va_Nw.of rfl (hts _ (List.mem_append_right _ (List.mem_append_right _ (List.mem_append_right _ (List.mem_append_left _ (List.mem_of_getElem? (i := 91) rfl)))))), List.forall_mem_cons.mpr ⟨va_Nw.of rfl (hts _ (List.mem_append_right _ (List.mem_append_right _ (List.mem_append_right _ (List.mem_append_left _ (List.mem_of_getElem? (i := 100) rfl)))))), List.forall_mem_cons.mpr ⟨va_Nw.of rfl (hts _ (List.mem_append_right _ (List.mem_append_right _ (List.mem_append_right _ (List.mem_append_left _ (List.mem_of_getElem? (i := 108) rfl)))))), List.forall_mem_cons.mpr ⟨va_Nw.of rfl (hts _ (List.mem_append_right _ (List.mem_append_right _ (List.mem_append_right _ (List.mem_append_left _ (List.mem_of_getElem? (i := 120) rfl)))))), List.forall_mem_cons.mpr ⟨va_Nw.of rfl (hts _ (List.mem_append_right _ (List.mem_append_right _ (List.mem_append_right _ (List.mem_append_left _ (List.mem_of_getElem? (i := 96) rfl)))))), fun _ h => absurd h List.not_mem_nil⟩⟩⟩⟩⟩⟩⟩⟩⟩⟩⟩⟩⟩⟩⟩⟩⟩⟩⟩⟩⟩⟩⟩⟩⟩⟩⟩⟩⟩⟩⟩⟩⟩⟩⟩⟩⟩⟩⟩⟩⟩⟩, List.forall_mem_cons.mpr ⟨va_Nw.of rfl (hts _ (List.mem_append_right _ (List.mem_append_left _ (List.mem_of_getElem? (i := 80) rfl)))), List.forall_mem_cons.mpr ⟨va_Nw.of rfl (hts _ (List.mem_append_right _ (List.mem_append_left _ (List.mem_of_getElem? (i := 64) rfl)))), List.forall_mem_cons.mpr ⟨va_Nw.of rfl (hts _ (List.mem_append_right _ (List.mem_append_left _ (List.mem_of_getElem? (i := 82) rfl)))), List.forall_mem_cons.mpr ⟨va_Nw.of rfl (hts _ (List.mem_append_right _ (List.mem_append_left _ (List.mem_of_getElem? (i := 35) rfl)))), List.forall_mem_cons.mpr ⟨va_Nw.of rfl (hts _ (List.mem_append_right _ (List.mem_append_left _ (List.mem_of_getElem? (i := 84) rfl)))), fun _ h => absurd h List.not_mem_nil⟩⟩⟩⟩⟩⟩
theorem st_AO {b L : Nat} {xs : Nat → Int32} (hts : ∀ w ∈ lw_tbl, w.before #[Value.ref b] s = true) : va_AO "QuarrelWays$Town" s := va_AO.of (A := #[Value.ref b]) (hts _ (List.mem_append_right _ (List.mem_append_left _ (List.mem_of_getElem? (i := 59) rfl))))
theorem st_arr {b L : Nat} {xs : Nat → Int32} (hts : ∀ w ∈ lw_tbl, w.before #[Value.ref b] s = true) {ty : FieldType} (h : (Cond.arrayClass ty).before #[Value.ref b] s = true) : ∃ cA : ClassId, ArrOfT s cA ty ∧ s.vm.findClass ("[" ++ ty.toString) = some cA := by
  obtain ⟨cA, kA, comp, h1, h2, h3⟩ := Cond.arrayClass_spec h
  exact ⟨cA, fun n z => ⟨fun k h => by cases h, kA, h2, comp, h3⟩, h1⟩
theorem st_K {b L : Nat} {xs : Nat → Int32} (hts : ∀ w ∈ lw_tbl, w.before #[Value.ref b] s = true) (dC : Nat → ClassId) (dI : Nat → Nat → Nat) (hk : ∀ (k : Nat) (q : vw_C), vwCl[k]? = some q → u_Kn s q.1 q.2.1 q.2.2 (dC k) (dI k)) : ∃ cI cZ cT : ClassId, va_K (dC, dI) vwCl (q_tys cI cZ cT) s := by
  obtain ⟨cI, i1, i2⟩ := st_arr (L := L) (xs := xs) hts (hts _ (List.mem_append_right _ (List.mem_append_left _ (List.mem_of_getElem? (i := 51) rfl))))
  obtain ⟨cZ, z1, z2⟩ := st_arr (L := L) (xs := xs) hts (hts _ (List.mem_append_right _ (List.mem_append_right _ (List.mem_append_right _ (List.mem_append_left _ (List.mem_of_getElem? (i := 162) rfl))))))
  obtain ⟨comp, cT, kT, t1, t2, t3, t4, t5⟩ := Cond.arrayOver_spec (n := "QuarrelWays$Town") (show (Cond.arrayOver (.object "QuarrelWays$Town")).holds #[Value.ref b] s none s [] = true from (hts _ (List.mem_append_right _ (List.mem_append_left _ (List.mem_of_getElem? (i := 59) rfl)))))
  refine ⟨cI, cZ, cT, hk, fun k q hq => ?_⟩
  match k, hq with
  | 0, hq => cases hq; exact ⟨i1, i2⟩
  | 1, hq => cases hq; exact ⟨z1, z2⟩
  | 2, hq => cases hq; exact ⟨fun n z => ⟨fun k h => by cases h, kT, t3, comp, t4⟩, kT, comp, t3, t4, t1, t5⟩
  | k + 3, hq => simp [q_tys] at hq
set_option maxHeartbeats 8000000 in
set_option maxRecDepth 100000 in
theorem st_E {b L : Nat} {xs : Nat → Int32} (hts : ∀ w ∈ lw_tbl, w.before #[Value.ref b] s = true) (hgv : (Jvm.Cond.and given_1 narrow_1).before #[Value.ref b] s = true) : ∃ G : q_G, q_E G (fun q : Nat => s.heap.size ≤ q) s := by
  have hf := flat_of_before _ hgv
  have hA0 : ∀ a : Nat, a < s.heap.size → ¬ (fun q : Nat => s.heap.size ≤ q) a := fun a h => Nat.not_le.mpr h
  have sx : ∀ i : Nat, i < 7 → (Cond.exactly (Term.string "QuarrelWays$Pad" (49 + 2 * i)) "java/lang/String").before #[Value.ref b] s = true := by
    intro i hi
    rcases (show i = 0 ∨ i = 1 ∨ i = 2 ∨ i = 3 ∨ i = 4 ∨ i = 5 ∨ i = 6 by omega) with rfl | rfl | rfl | rfl | rfl | rfl | rfl
    · exact hf (Cond.exactly (Term.string "QuarrelWays$Pad" 49) "java/lang/String") (by decide +kernel)
    · exact hf (Cond.exactly (Term.string "QuarrelWays$Pad" 51) "java/lang/String") (by decide +kernel)
    · exact hf (Cond.exactly (Term.string "QuarrelWays$Pad" 53) "java/lang/String") (by decide +kernel)
    · exact hf (Cond.exactly (Term.string "QuarrelWays$Pad" 55) "java/lang/String") (by decide +kernel)
    · exact hf (Cond.exactly (Term.string "QuarrelWays$Pad" 57) "java/lang/String") (by decide +kernel)
    · exact hf (Cond.exactly (Term.string "QuarrelWays$Pad" 59) "java/lang/String") (by decide +kernel)
    · exact hf (Cond.exactly (Term.string "QuarrelWays$Pad" 61) "java/lang/String") (by decide +kernel)
  have sc : ∀ i : Nat, i < 7 → (Cond.eq (.field (Term.string "QuarrelWays$Pad" (49 + 2 * i)) "java/lang/String" "coder" "B") (.int 0)).before #[Value.ref b] s = true := by
    intro i hi
    rcases (show i = 0 ∨ i = 1 ∨ i = 2 ∨ i = 3 ∨ i = 4 ∨ i = 5 ∨ i = 6 by omega) with rfl | rfl | rfl | rfl | rfl | rfl | rfl
    · exact hf (Cond.eq (.field (Term.string "QuarrelWays$Pad" 49) "java/lang/String" "coder" "B") (.int 0)) (by decide +kernel)
    · exact hf (Cond.eq (.field (Term.string "QuarrelWays$Pad" 51) "java/lang/String" "coder" "B") (.int 0)) (by decide +kernel)
    · exact hf (Cond.eq (.field (Term.string "QuarrelWays$Pad" 53) "java/lang/String" "coder" "B") (.int 0)) (by decide +kernel)
    · exact hf (Cond.eq (.field (Term.string "QuarrelWays$Pad" 55) "java/lang/String" "coder" "B") (.int 0)) (by decide +kernel)
    · exact hf (Cond.eq (.field (Term.string "QuarrelWays$Pad" 57) "java/lang/String" "coder" "B") (.int 0)) (by decide +kernel)
    · exact hf (Cond.eq (.field (Term.string "QuarrelWays$Pad" 59) "java/lang/String" "coder" "B") (.int 0)) (by decide +kernel)
    · exact hf (Cond.eq (.field (Term.string "QuarrelWays$Pad" 61) "java/lang/String" "coder" "B") (.int 0)) (by decide +kernel)
  have sa : ∀ i : Nat, i < 7 → (Cond.arrayOf (.field (Term.string "QuarrelWays$Pad" (49 + 2 * i)) "java/lang/String" "value" "[B") .byte).before #[Value.ref b] s = true := by
    intro i hi
    rcases (show i = 0 ∨ i = 1 ∨ i = 2 ∨ i = 3 ∨ i = 4 ∨ i = 5 ∨ i = 6 by omega) with rfl | rfl | rfl | rfl | rfl | rfl | rfl
    · exact hf (Cond.arrayOf (.field (Term.string "QuarrelWays$Pad" 49) "java/lang/String" "value" "[B") .byte) (by decide +kernel)
    · exact hf (Cond.arrayOf (.field (Term.string "QuarrelWays$Pad" 51) "java/lang/String" "value" "[B") .byte) (by decide +kernel)
    · exact hf (Cond.arrayOf (.field (Term.string "QuarrelWays$Pad" 53) "java/lang/String" "value" "[B") .byte) (by decide +kernel)
    · exact hf (Cond.arrayOf (.field (Term.string "QuarrelWays$Pad" 55) "java/lang/String" "value" "[B") .byte) (by decide +kernel)
    · exact hf (Cond.arrayOf (.field (Term.string "QuarrelWays$Pad" 57) "java/lang/String" "value" "[B") .byte) (by decide +kernel)
    · exact hf (Cond.arrayOf (.field (Term.string "QuarrelWays$Pad" 59) "java/lang/String" "value" "[B") .byte) (by decide +kernel)
    · exact hf (Cond.arrayOf (.field (Term.string "QuarrelWays$Pad" 61) "java/lang/String" "value" "[B") .byte) (by decide +kernel)
  have sl : ∀ i : Nat, i < 7 → (Cond.eq (.length (.field (Term.string "QuarrelWays$Pad" (49 + 2 * i)) "java/lang/String" "value" "[B")) (.int (Int32.ofNat (sLen.getD i 0)))).before #[Value.ref b] s = true := by
    intro i hi
    rcases (show i = 0 ∨ i = 1 ∨ i = 2 ∨ i = 3 ∨ i = 4 ∨ i = 5 ∨ i = 6 by omega) with rfl | rfl | rfl | rfl | rfl | rfl | rfl
    · exact hf (Cond.eq (.length (.field (Term.string "QuarrelWays$Pad" 49) "java/lang/String" "value" "[B")) (.int 2)) (by decide +kernel)
    · exact hf (Cond.eq (.length (.field (Term.string "QuarrelWays$Pad" 51) "java/lang/String" "value" "[B")) (.int 3)) (by decide +kernel)
    · exact hf (Cond.eq (.length (.field (Term.string "QuarrelWays$Pad" 53) "java/lang/String" "value" "[B")) (.int 4)) (by decide +kernel)
    · exact hf (Cond.eq (.length (.field (Term.string "QuarrelWays$Pad" 55) "java/lang/String" "value" "[B")) (.int 3)) (by decide +kernel)
    · exact hf (Cond.eq (.length (.field (Term.string "QuarrelWays$Pad" 57) "java/lang/String" "value" "[B")) (.int 1)) (by decide +kernel)
    · exact hf (Cond.eq (.length (.field (Term.string "QuarrelWays$Pad" 59) "java/lang/String" "value" "[B")) (.int 1)) (by decide +kernel)
    · exact hf (Cond.eq (.length (.field (Term.string "QuarrelWays$Pad" 61) "java/lang/String" "value" "[B")) (.int 0)) (by decide +kernel)
  have se : ∀ i : Nat, i < 7 → ∀ j : Nat, j < sLen.getD i 0 → (Cond.eq (.elem (.field (Term.string "QuarrelWays$Pad" (49 + 2 * i)) "java/lang/String" "value" "[B") (.int (Int32.ofNat j))) (.int ((sByt.getD i []).getD j 0))).before #[Value.ref b] s = true := by
    intro i hi j hj
    rcases (show i = 0 ∨ i = 1 ∨ i = 2 ∨ i = 3 ∨ i = 4 ∨ i = 5 ∨ i = 6 by omega) with rfl | rfl | rfl | rfl | rfl | rfl | rfl
    · have hj : j < 2 := hj
      rcases (show j = 0 ∨ j = 1 by omega) with rfl | rfl
      · exact hf (Cond.eq (.elem (.field (Term.string "QuarrelWays$Pad" 49) "java/lang/String" "value" "[B") (.int 0)) (.int 100)) (by decide +kernel)
      · exact hf (Cond.eq (.elem (.field (Term.string "QuarrelWays$Pad" 49) "java/lang/String" "value" "[B") (.int 1)) (.int 100)) (by decide +kernel)
    · have hj : j < 3 := hj
      rcases (show j = 0 ∨ j = 1 ∨ j = 2 by omega) with rfl | rfl | rfl
      · exact hf (Cond.eq (.elem (.field (Term.string "QuarrelWays$Pad" 51) "java/lang/String" "value" "[B") (.int 0)) (.int 100)) (by decide +kernel)
      · exact hf (Cond.eq (.elem (.field (Term.string "QuarrelWays$Pad" 51) "java/lang/String" "value" "[B") (.int 1)) (.int 62)) (by decide +kernel)
      · exact hf (Cond.eq (.elem (.field (Term.string "QuarrelWays$Pad" 51) "java/lang/String" "value" "[B") (.int 2)) (.int 100)) (by decide +kernel)
    · have hj : j < 4 := hj
      rcases (show j = 0 ∨ j = 1 ∨ j = 2 ∨ j = 3 by omega) with rfl | rfl | rfl | rfl
      · exact hf (Cond.eq (.elem (.field (Term.string "QuarrelWays$Pad" 53) "java/lang/String" "value" "[B") (.int 0)) (.int 100)) (by decide +kernel)
      · exact hf (Cond.eq (.elem (.field (Term.string "QuarrelWays$Pad" 53) "java/lang/String" "value" "[B") (.int 1)) (.int 100)) (by decide +kernel)
      · exact hf (Cond.eq (.elem (.field (Term.string "QuarrelWays$Pad" 53) "java/lang/String" "value" "[B") (.int 2)) (.int 47)) (by decide +kernel)
      · exact hf (Cond.eq (.elem (.field (Term.string "QuarrelWays$Pad" 53) "java/lang/String" "value" "[B") (.int 3)) (.int 100)) (by decide +kernel)
    · have hj : j < 3 := hj
      rcases (show j = 0 ∨ j = 1 ∨ j = 2 by omega) with rfl | rfl | rfl
      · exact hf (Cond.eq (.elem (.field (Term.string "QuarrelWays$Pad" 55) "java/lang/String" "value" "[B") (.int 0)) (.int 110)) (by decide +kernel)
      · exact hf (Cond.eq (.elem (.field (Term.string "QuarrelWays$Pad" 55) "java/lang/String" "value" "[B") (.int 1)) (.int 46)) (by decide +kernel)
      · exact hf (Cond.eq (.elem (.field (Term.string "QuarrelWays$Pad" 55) "java/lang/String" "value" "[B") (.int 2)) (.int 100)) (by decide +kernel)
    · have hj : j < 1 := hj
      rcases (show j = 0 by omega) with rfl
      · exact hf (Cond.eq (.elem (.field (Term.string "QuarrelWays$Pad" 57) "java/lang/String" "value" "[B") (.int 0)) (.int 110)) (by decide +kernel)
    · have hj : j < 1 := hj
      rcases (show j = 0 by omega) with rfl
      · exact hf (Cond.eq (.elem (.field (Term.string "QuarrelWays$Pad" 59) "java/lang/String" "value" "[B") (.int 0)) (.int 100)) (by decide +kernel)
    · exact absurd (show j < 0 from hj) (Nat.not_lt_zero j)
  have sn : ∀ i j : Nat, i < 7 → j < 7 → i ≠ j → (Cond.not (Cond.eq (Term.string "QuarrelWays$Pad" (49 + 2 * i)) (Term.string "QuarrelWays$Pad" (49 + 2 * j)))).before #[Value.ref b] s = true ∨ (Cond.not (Cond.eq (Term.string "QuarrelWays$Pad" (49 + 2 * j)) (Term.string "QuarrelWays$Pad" (49 + 2 * i)))).before #[Value.ref b] s = true := by
    intro i j hi hj hij
    rcases (show i = 0 ∨ i = 1 ∨ i = 2 ∨ i = 3 ∨ i = 4 ∨ i = 5 ∨ i = 6 by omega) with rfl | rfl | rfl | rfl | rfl | rfl | rfl
    · rcases (show j = 0 ∨ j = 1 ∨ j = 2 ∨ j = 3 ∨ j = 4 ∨ j = 5 ∨ j = 6 by omega) with rfl | rfl | rfl | rfl | rfl | rfl | rfl
      · exact absurd rfl hij
      · exact Or.inl (hf (Cond.not (Cond.eq (Term.string "QuarrelWays$Pad" 49) (Term.string "QuarrelWays$Pad" 51))) (by decide +kernel))
      · exact Or.inl (hf (Cond.not (Cond.eq (Term.string "QuarrelWays$Pad" 49) (Term.string "QuarrelWays$Pad" 53))) (by decide +kernel))
      · exact Or.inl (hf (Cond.not (Cond.eq (Term.string "QuarrelWays$Pad" 49) (Term.string "QuarrelWays$Pad" 55))) (by decide +kernel))
      · exact Or.inl (hf (Cond.not (Cond.eq (Term.string "QuarrelWays$Pad" 49) (Term.string "QuarrelWays$Pad" 57))) (by decide +kernel))
      · exact Or.inl (hf (Cond.not (Cond.eq (Term.string "QuarrelWays$Pad" 49) (Term.string "QuarrelWays$Pad" 59))) (by decide +kernel))
      · exact Or.inl (hf (Cond.not (Cond.eq (Term.string "QuarrelWays$Pad" 49) (Term.string "QuarrelWays$Pad" 61))) (by decide +kernel))
    · rcases (show j = 0 ∨ j = 1 ∨ j = 2 ∨ j = 3 ∨ j = 4 ∨ j = 5 ∨ j = 6 by omega) with rfl | rfl | rfl | rfl | rfl | rfl | rfl
      · exact Or.inr (hf (Cond.not (Cond.eq (Term.string "QuarrelWays$Pad" 49) (Term.string "QuarrelWays$Pad" 51))) (by decide +kernel))
      · exact absurd rfl hij
      · exact Or.inl (hf (Cond.not (Cond.eq (Term.string "QuarrelWays$Pad" 51) (Term.string "QuarrelWays$Pad" 53))) (by decide +kernel))
      · exact Or.inl (hf (Cond.not (Cond.eq (Term.string "QuarrelWays$Pad" 51) (Term.string "QuarrelWays$Pad" 55))) (by decide +kernel))
      · exact Or.inl (hf (Cond.not (Cond.eq (Term.string "QuarrelWays$Pad" 51) (Term.string "QuarrelWays$Pad" 57))) (by decide +kernel))
      · exact Or.inl (hf (Cond.not (Cond.eq (Term.string "QuarrelWays$Pad" 51) (Term.string "QuarrelWays$Pad" 59))) (by decide +kernel))
      · exact Or.inl (hf (Cond.not (Cond.eq (Term.string "QuarrelWays$Pad" 51) (Term.string "QuarrelWays$Pad" 61))) (by decide +kernel))
    · rcases (show j = 0 ∨ j = 1 ∨ j = 2 ∨ j = 3 ∨ j = 4 ∨ j = 5 ∨ j = 6 by omega) with rfl | rfl | rfl | rfl | rfl | rfl | rfl
      · exact Or.inr (hf (Cond.not (Cond.eq (Term.string "QuarrelWays$Pad" 49) (Term.string "QuarrelWays$Pad" 53))) (by decide +kernel))
      · exact Or.inr (hf (Cond.not (Cond.eq (Term.string "QuarrelWays$Pad" 51) (Term.string "QuarrelWays$Pad" 53))) (by decide +kernel))
      · exact absurd rfl hij
      · exact Or.inl (hf (Cond.not (Cond.eq (Term.string "QuarrelWays$Pad" 53) (Term.string "QuarrelWays$Pad" 55))) (by decide +kernel))
      · exact Or.inl (hf (Cond.not (Cond.eq (Term.string "QuarrelWays$Pad" 53) (Term.string "QuarrelWays$Pad" 57))) (by decide +kernel))
      · exact Or.inl (hf (Cond.not (Cond.eq (Term.string "QuarrelWays$Pad" 53) (Term.string "QuarrelWays$Pad" 59))) (by decide +kernel))
      · exact Or.inl (hf (Cond.not (Cond.eq (Term.string "QuarrelWays$Pad" 53) (Term.string "QuarrelWays$Pad" 61))) (by decide +kernel))
    · rcases (show j = 0 ∨ j = 1 ∨ j = 2 ∨ j = 3 ∨ j = 4 ∨ j = 5 ∨ j = 6 by omega) with rfl | rfl | rfl | rfl | rfl | rfl | rfl
      · exact Or.inr (hf (Cond.not (Cond.eq (Term.string "QuarrelWays$Pad" 49) (Term.string "QuarrelWays$Pad" 55))) (by decide +kernel))
      · exact Or.inr (hf (Cond.not (Cond.eq (Term.string "QuarrelWays$Pad" 51) (Term.string "QuarrelWays$Pad" 55))) (by decide +kernel))
      · exact Or.inr (hf (Cond.not (Cond.eq (Term.string "QuarrelWays$Pad" 53) (Term.string "QuarrelWays$Pad" 55))) (by decide +kernel))
      · exact absurd rfl hij
      · exact Or.inl (hf (Cond.not (Cond.eq (Term.string "QuarrelWays$Pad" 55) (Term.string "QuarrelWays$Pad" 57))) (by decide +kernel))
      · exact Or.inl (hf (Cond.not (Cond.eq (Term.string "QuarrelWays$Pad" 55) (Term.string "QuarrelWays$Pad" 59))) (by decide +kernel))
      · exact Or.inl (hf (Cond.not (Cond.eq (Term.string "QuarrelWays$Pad" 55) (Term.string "QuarrelWays$Pad" 61))) (by decide +kernel))
    · rcases (show j = 0 ∨ j = 1 ∨ j = 2 ∨ j = 3 ∨ j = 4 ∨ j = 5 ∨ j = 6 by omega) with rfl | rfl | rfl | rfl | rfl | rfl | rfl
      · exact Or.inr (hf (Cond.not (Cond.eq (Term.string "QuarrelWays$Pad" 49) (Term.string "QuarrelWays$Pad" 57))) (by decide +kernel))
      · exact Or.inr (hf (Cond.not (Cond.eq (Term.string "QuarrelWays$Pad" 51) (Term.string "QuarrelWays$Pad" 57))) (by decide +kernel))
      · exact Or.inr (hf (Cond.not (Cond.eq (Term.string "QuarrelWays$Pad" 53) (Term.string "QuarrelWays$Pad" 57))) (by decide +kernel))
      · exact Or.inr (hf (Cond.not (Cond.eq (Term.string "QuarrelWays$Pad" 55) (Term.string "QuarrelWays$Pad" 57))) (by decide +kernel))
      · exact absurd rfl hij
      · exact Or.inl (hf (Cond.not (Cond.eq (Term.string "QuarrelWays$Pad" 57) (Term.string "QuarrelWays$Pad" 59))) (by decide +kernel))
      · exact Or.inl (hf (Cond.not (Cond.eq (Term.string "QuarrelWays$Pad" 57) (Term.string "QuarrelWays$Pad" 61))) (by decide +kernel))
    · rcases (show j = 0 ∨ j = 1 ∨ j = 2 ∨ j = 3 ∨ j = 4 ∨ j = 5 ∨ j = 6 by omega) with rfl | rfl | rfl | rfl | rfl | rfl | rfl
      · exact Or.inr (hf (Cond.not (Cond.eq (Term.string "QuarrelWays$Pad" 49) (Term.string "QuarrelWays$Pad" 59))) (by decide +kernel))
      · exact Or.inr (hf (Cond.not (Cond.eq (Term.string "QuarrelWays$Pad" 51) (Term.string "QuarrelWays$Pad" 59))) (by decide +kernel))
      · exact Or.inr (hf (Cond.not (Cond.eq (Term.string "QuarrelWays$Pad" 53) (Term.string "QuarrelWays$Pad" 59))) (by decide +kernel))
      · exact Or.inr (hf (Cond.not (Cond.eq (Term.string "QuarrelWays$Pad" 55) (Term.string "QuarrelWays$Pad" 59))) (by decide +kernel))
      · exact Or.inr (hf (Cond.not (Cond.eq (Term.string "QuarrelWays$Pad" 57) (Term.string "QuarrelWays$Pad" 59))) (by decide +kernel))
      · exact absurd rfl hij
      · exact Or.inl (hf (Cond.not (Cond.eq (Term.string "QuarrelWays$Pad" 59) (Term.string "QuarrelWays$Pad" 61))) (by decide +kernel))
    · rcases (show j = 0 ∨ j = 1 ∨ j = 2 ∨ j = 3 ∨ j = 4 ∨ j = 5 ∨ j = 6 by omega) with rfl | rfl | rfl | rfl | rfl | rfl | rfl
      · exact Or.inr (hf (Cond.not (Cond.eq (Term.string "QuarrelWays$Pad" 49) (Term.string "QuarrelWays$Pad" 61))) (by decide +kernel))
      · exact Or.inr (hf (Cond.not (Cond.eq (Term.string "QuarrelWays$Pad" 51) (Term.string "QuarrelWays$Pad" 61))) (by decide +kernel))
      · exact Or.inr (hf (Cond.not (Cond.eq (Term.string "QuarrelWays$Pad" 53) (Term.string "QuarrelWays$Pad" 61))) (by decide +kernel))
      · exact Or.inr (hf (Cond.not (Cond.eq (Term.string "QuarrelWays$Pad" 55) (Term.string "QuarrelWays$Pad" 61))) (by decide +kernel))
      · exact Or.inr (hf (Cond.not (Cond.eq (Term.string "QuarrelWays$Pad" 57) (Term.string "QuarrelWays$Pad" 61))) (by decide +kernel))
      · exact Or.inr (hf (Cond.not (Cond.eq (Term.string "QuarrelWays$Pad" 59) (Term.string "QuarrelWays$Pad" 61))) (by decide +kernel))
      · exact absurd rfl hij
  obtain ⟨adK, adV, hS1, hS2⟩ := vk_Sof (N := 7) (tm := fun i => (Term.string "QuarrelWays$Pad" (49 + 2 * i))) (len := sLen) (byt := sByt) (by decide) sx sc sa sl se sn hA0
  have etL : ∀ j : Nat, j < 4 → (Term.elem (Term.static "QuarrelWays$Town" "LOWEST" "[I") (.int (Int32.ofNat j))).eval #[Value.ref b] s none [] s = some (.int (lowB j)) := by
    intro j hj
    rcases (show j = 0 ∨ j = 1 ∨ j = 2 ∨ j = 3 by omega) with rfl | rfl | rfl | rfl
    · exact va_eqt (hf (Cond.eq (.elem (Term.static "QuarrelWays$Town" "LOWEST" "[I") (.int 0)) (.int 1)) (by decide +kernel))
    · exact va_eqt (hf (Cond.eq (.elem (Term.static "QuarrelWays$Town" "LOWEST" "[I") (.int 1)) (.int 0)) (by decide +kernel))
    · exact va_eqt (hf (Cond.eq (.elem (Term.static "QuarrelWays$Town" "LOWEST" "[I") (.int 2)) (.int 1)) (by decide +kernel))
    · exact va_eqt (hf (Cond.eq (.elem (Term.static "QuarrelWays$Town" "LOWEST" "[I") (.int 3)) (.int 0)) (by decide +kernel))
  obtain ⟨tL, vtL, TtL⟩ := va_Tof (tm := (Term.static "QuarrelWays$Town" "LOWEST" "[I")) (ty := .int) (N := 4) (f := fun j => .int (lowB j)) (by decide) (hf (Cond.arrayOf (Term.static "QuarrelWays$Town" "LOWEST" "[I") .int) (by decide +kernel)) (va_eqt (hf (Cond.eq (.length (Term.static "QuarrelWays$Town" "LOWEST" "[I")) (.int 4)) (by decide +kernel))) etL hA0
  have etH : ∀ j : Nat, j < 4 → (Term.elem (Term.static "QuarrelWays$Town" "HIGHEST" "[I") (.int (Int32.ofNat j))).eval #[Value.ref b] s none [] s = some (.int (highB j)) := by
    intro j hj
    rcases (show j = 0 ∨ j = 1 ∨ j = 2 ∨ j = 3 by omega) with rfl | rfl | rfl | rfl
    · exact va_eqt (hf (Cond.eq (.elem (Term.static "QuarrelWays$Town" "HIGHEST" "[I") (.int 0)) (.int 48)) (by decide +kernel))
    · exact va_eqt (hf (Cond.eq (.elem (Term.static "QuarrelWays$Town" "HIGHEST" "[I") (.int 1)) (.int 99)) (by decide +kernel))
    · exact va_eqt (hf (Cond.eq (.elem (Term.static "QuarrelWays$Town" "HIGHEST" "[I") (.int 2)) (.int 200)) (by decide +kernel))
    · exact va_eqt (hf (Cond.eq (.elem (Term.static "QuarrelWays$Town" "HIGHEST" "[I") (.int 3)) (.int 400)) (by decide +kernel))
  obtain ⟨tH, vtH, TtH⟩ := va_Tof (tm := (Term.static "QuarrelWays$Town" "HIGHEST" "[I")) (ty := .int) (N := 4) (f := fun j => .int (highB j)) (by decide) (hf (Cond.arrayOf (Term.static "QuarrelWays$Town" "HIGHEST" "[I") .int) (by decide +kernel)) (va_eqt (hf (Cond.eq (.length (Term.static "QuarrelWays$Town" "HIGHEST" "[I")) (.int 4)) (by decide +kernel))) etH hA0
  have i2 : (Cond.initialized "QuarrelWays$Town").before #[Value.ref b] s = true := (hts _ (List.mem_append_right _ (List.mem_append_left _ (List.mem_of_getElem? (i := 2) rfl))))
  refine ⟨(adK, adV, tL, tH), st_NN (L := L) (xs := xs) hts, hS1, ?_, ?_, ?_, ⟨va_Zof (hts _ (List.mem_append_right _ (List.mem_append_left _ (List.mem_of_getElem? (i := 147) rfl)))) i2 vtL hA0, TtL⟩, va_Zof (hts _ (List.mem_append_right _ (List.mem_append_left _ (List.mem_of_getElem? (i := 149) rfl)))) i2 vtH hA0, TtH⟩
  · intro i hi
    have h2 := hS2 i hi
    rcases (show i = 0 ∨ i = 1 ∨ i = 2 ∨ i = 3 ∨ i = 4 ∨ i = 5 ∨ i = 6 by omega) with rfl | rfl | rfl | rfl | rfl | rfl | rfl
    · exact vk_R.of (A := #[Value.ref b]) (hts _ (List.mem_append_right _ (List.mem_append_right _ (List.mem_append_right _ (List.mem_append_left _ (List.mem_of_getElem? (i := 12) rfl)))))) h2
    · exact vk_R.of (A := #[Value.ref b]) (hts _ (List.mem_append_right _ (List.mem_append_right _ (List.mem_append_right _ (List.mem_append_left _ (List.mem_of_getElem? (i := 13) rfl)))))) h2
    · exact vk_R.of (A := #[Value.ref b]) (hts _ (List.mem_append_right _ (List.mem_append_right _ (List.mem_append_right _ (List.mem_append_left _ (List.mem_of_getElem? (i := 14) rfl)))))) h2
    · exact vk_R.of (A := #[Value.ref b]) (hts _ (List.mem_append_right _ (List.mem_append_right _ (List.mem_append_right _ (List.mem_append_left _ (List.mem_of_getElem? (i := 15) rfl)))))) h2
    · exact vk_R.of (A := #[Value.ref b]) (hts _ (List.mem_append_right _ (List.mem_append_right _ (List.mem_append_right _ (List.mem_append_left _ (List.mem_of_getElem? (i := 16) rfl)))))) h2
    · exact vk_R.of (A := #[Value.ref b]) (hts _ (List.mem_append_right _ (List.mem_append_right _ (List.mem_append_right _ (List.mem_append_left _ (List.mem_of_getElem? (i := 17) rfl)))))) h2
    · exact vk_R.of (A := #[Value.ref b]) (hts _ (List.mem_append_right _ (List.mem_append_right _ (List.mem_append_right _ (List.mem_append_left _ (List.mem_of_getElem? (i := 18) rfl)))))) h2
  · exact va_Zof (hts _ (List.mem_append_right _ (List.mem_append_right _ (List.mem_append_right _ (List.mem_append_left _ (List.mem_of_getElem? (i := 32) rfl)))))) (hts _ (List.mem_append_right _ (List.mem_append_left _ (List.mem_of_getElem? (i := 9) rfl)))) (va_eqt (hf (Cond.eq (.static "java/lang/String" "COMPACT_STRINGS" "Z") (.int 1)) (by decide +kernel))) hA0
  · exact va_Zqof (hts _ (List.mem_append_right _ (List.mem_append_right _ (List.mem_append_right _ (List.mem_append_left _ (List.mem_of_getElem? (i := 48) rfl)))))) (hts _ (List.mem_append_right _ (List.mem_append_left _ (List.mem_of_getElem? (i := 11) rfl)))) (hf (Cond.isRef (.static "jdk/internal/util/Preconditions" "SIOOBE_FORMATTER" "Ljava/util/function/BiFunction;")) (by decide +kernel)) hA0
set_option maxHeartbeats 8000000 in
set_option maxRecDepth 100000 in
theorem start_of (J : JT) (hst : Steps J) (hi : St_init J) {b L : Nat} {xs : Nat → Int32} (hL : L ≤ 2048) (C0 : lw_At p s m meth c b L xs) : W p l e room_1 s m #[Value.ref b] below meth c s.heap [] 0 0 (lw_Z below #[Value.ref b] s) (entryFrame m ([Value.ref b] : List Value).toArray 4) := by
  obtain ⟨hx, hb, hr, hml, hown, hts, hX, hbl, hlocks, hgv⟩ := id C0
  have hA : ∀ q : Nat, s.heap.size ≤ q → (fun q : Nat => s.heap.size ≤ q) q := fun _ h => h
  have hbA : ¬ (fun q : Nat => s.heap.size ≤ q) b := Nat.not_le.mpr hbl
  obtain ⟨c0, iS0, hKn0⟩ := u_known (C := RX0) (T := TX0) (N := 3) (n := 3) hts (fun w h => BW_in w (iw_X0 w h)) (hts _ (List.mem_append_right _ (List.mem_append_left _ (List.mem_of_getElem? (i := 53) rfl))))
  obtain ⟨c1, iS1, hKn1⟩ := u_known (C := RX1) (T := TX1) (N := 6) (n := 6) hts (fun w h => BW_in w (iw_X1 w h)) (hts _ (List.mem_append_right _ (List.mem_append_left _ (List.mem_of_getElem? (i := 73) rfl))))
  obtain ⟨c2, iS2, hKn2⟩ := u_known (C := RX2) (T := TX2) (N := 6) (n := 6) hts (fun w h => BW_in w (iw_X2 w h)) (hts _ (List.mem_append_right _ (List.mem_append_left _ (List.mem_of_getElem? (i := 22) rfl))))
  obtain ⟨c3, iS3, hKn3⟩ := u_known (C := RX3) (T := TX3) (N := 4) (n := 4) hts (fun w h => BW_in w (iw_X3 w h)) (hts _ (List.mem_append_right _ (List.mem_append_left _ (List.mem_of_getElem? (i := 14) rfl))))
  obtain ⟨c4, iS4, hKn4⟩ := u_known (C := RX4) (T := TX4) (N := 10) (n := 10) hts (fun w h => BW_in w (iw_X4 w h)) (hts _ (List.mem_append_right _ (List.mem_append_right _ (List.mem_append_right _ (List.mem_append_left _ (List.mem_of_getElem? (i := 126) rfl))))))
  obtain ⟨dC, dI, hKc⟩ : ∃ (dC : Nat → ClassId) (dI : Nat → Nat → Nat), ∀ (k : Nat) (q : vw_C), vwCl[k]? = some q → u_Kn s q.1 q.2.1 q.2.2 (dC k) (dI k) := by
    refine ⟨fun k => if k = 0 then c0 else if k = 1 then c1 else if k = 2 then c2 else if k = 3 then c3 else c4, fun k => if k = 0 then iS0 else if k = 1 then iS1 else if k = 2 then iS2 else if k = 3 then iS3 else iS4, ?_⟩
    intro k q hq
    match k, hq with
    | 0, hq => cases hq; exact hKn0
    | 1, hq => cases hq; exact hKn1
    | 2, hq => cases hq; exact hKn2
    | 3, hq => cases hq; exact hKn3
    | 4, hq => cases hq; exact hKn4
    | k + 5, hq => simp [vwCl] at hq
  obtain ⟨cI, cZ, cT, hK⟩ := st_K (L := L) (xs := xs) hts dC dI hKc
  obtain ⟨G, hE⟩ := st_E (L := L) (xs := xs) hts hgv
  have hE2 : q_C s := ⟨hE.1, st_AO (L := L) (xs := xs) hts⟩
  have hS : va_S (fun q : Nat => s.heap.size ≤ q) s.heap s.heap [] := va_S.rf
  have hP : va_P (dC, dI) vwCl [] s.heap := fun k q h => by simp at h
  have hD : va_D (fun q : Nat => s.heap.size ≤ q) [] := ⟨fun i j p q h => by simp at h, fun k q h => by simp at h⟩
  have hl := lv_entry ([.ref b]) (n := 4) (Nat.le_of_ble_eq_true rfl)
  rw [lg_entry_eq]
  generalize (lg_sl ([.ref b]) ++ List.replicate (4 - (lg_sl ([.ref b])).length) Slot.unset).toArray = ls at hl ⊢
  have hl : lv_has ls 4 [(0, .ref b)] := hl
  have hbw : ∀ w ∈ BW, w.before #[Value.ref b] s = true := fun w h => hts w (BW_in w h)
  have hF : CallFix p m c code 4 s #[Value.ref b] BW RL := ⟨hx, hb, hml, hown, hbw⟩
  obtain ⟨t0, m0, ht0, hm0, hJ0⟩ := hi
  refine va_new (own := RL) (ci := 3) (fs := [.null, .null, .null, .null]) (C := RX3) (T := TX3) (N := 4) hx hb hbw iw_X3 tyX3 tyX3_ok hown (hbw _ mw_622) (hbw _ mw_623) (hbw _ mw_51) hK hP hD hS hA rfl (fun j hj => by rcases (show j = 0 ∨ j = 1 ∨ j = 2 ∨ j = 3 by omega) with rfl | rfl | rfl | rfl <;> rfl) (Nat.le_of_ble_eq_true rfl) (Nat.le_of_ble_eq_true rfl) dL_law_0 (fun w H hP hD hS => ?_)
  refine lv_dup hx hb dL_law_3 rfl ?_
  have hP : va_P (dC, dI) vwCl ([] ++ [(w, .inr (3, [.null, .null, .null, .null]))]) H := hP
  have hD : va_D (fun q : Nat => s.heap.size ≤ q) ([] ++ [(w, .inr (3, [.null, .null, .null, .null]))]) := hD
  refine x_I (As := []) (rest := [.ref w]) (wr := []) (wc := [(w, .inr (3, [.null, .null, .null, .null]))]) hF (c_X3_init l (dC, dI) cI cZ cT _ w t0 ht0) (cwI 0 hbw (gq mw_317) rfl rfl rfl (hbw _ mw_51) (hbw _ mw_627) (hbw _ mw_628) rfl hd_X3_init.2 ⟨Nat.le_of_ble_eq_true rfl, Nat.le_of_ble_eq_true rfl⟩) hK hP hD hS hA q_C_bl (q_C_go hE2) rfl hl.1 rfl (Nat.le_of_ble_eq_true rfl) dL_law_4 ⟨Nat.le_of_ble_eq_true rfl, Nat.le_of_ble_eq_true rfl⟩ (fun u H locs hP hD hS => ?_)
  obtain ⟨⟨o, a⟩, hs, ⟨hst_, ta, ca⟩, pd, ⟨sg, nm⟩, sl⟩ := u
  have hP : va_P (dC, dI) vwCl ((wX w o hs pd sl) ++ (wT cI o a t0) ++ (wH cI cT hs hst_ ta ca (0, 0, fun _ => t0)) ++ (wPd cI pd sg nm pd0) ++ [(sl, .inl (cT, 2, .inr (.inr (.inr (.inr (fun _ => none))))))]) H := hP
  have hD : va_D (fun q : Nat => s.heap.size ≤ q) ((wX w o hs pd sl) ++ (wT cI o a t0) ++ (wH cI cT hs hst_ ta ca (0, 0, fun _ => t0)) ++ (wPd cI pd sg nm pd0) ++ [(sl, .inl (cT, 2, .inr (.inr (.inr (.inr (fun _ => none))))))]) := hD
  refine lv_astore_n (lv' := [(1, .ref w), (0, .ref b)]) hx hb dL_law_7 rfl hl (by decide) rfl (fun ls hl => ?_)
  refine va_new (own := RL) (ci := 4) (fs := [.null, .null, .null, .int 0, .null, .null, .null, .int 0, .int 0, .int 0]) (C := RX4) (T := TX4) (N := 10) hx hb hbw iw_X4 tyX4 tyX4_ok hown (hbw _ mw_624) (hbw _ mw_625) (hbw _ mw_428) hK hP hD hS hA rfl (fun j hj => by rcases (show j = 0 ∨ j = 1 ∨ j = 2 ∨ j = 3 ∨ j = 4 ∨ j = 5 ∨ j = 6 ∨ j = 7 ∨ j = 8 ∨ j = 9 by omega) with rfl | rfl | rfl | rfl | rfl | rfl | rfl | rfl | rfl | rfl <;> rfl) (Nat.le_of_ble_eq_true rfl) (Nat.le_of_ble_eq_true rfl) dL_law_8 (fun mo H hP hD hS => ?_)
  refine lv_dup hx hb dL_law_11 rfl ?_
  refine x_I (As := []) (rest := [.ref mo]) (wr := (wX w o hs pd sl) ++ (wT cI o a t0) ++ (wH cI cT hs hst_ ta ca (0, 0, fun _ => t0)) ++ (wPd cI pd sg nm pd0) ++ [(sl, .inl (cT, 2, .inr (.inr (.inr (.inr (fun _ => none))))))]) (wc := [(mo, .inr (4, [.null, .null, .null, .int 0, .null, .null, .null, .int 0, .int 0, .int 0]))]) hF (c_X4_init l (dC, dI) cI cZ cT _ mo m0 hm0) (cwI 0 hbw (gq mw_412) rfl rfl rfl (hbw _ mw_428) (hbw _ mw_629) (hbw _ mw_630) rfl hd_X4_init.2 ⟨Nat.le_of_ble_eq_true rfl, Nat.le_of_ble_eq_true rfl⟩) hK hP hD hS hA q_T_bl (fun _ _ _ => (trivial : True)) rfl hl.1 rfl (Nat.le_of_ble_eq_true rfl) dL_law_12 ⟨Nat.le_of_ble_eq_true rfl, Nat.le_of_ble_eq_true rfl⟩ (fun bm H locs hP hD hS => ?_)
  refine lv_astore_n (lv' := [(2, .ref mo), (1, .ref w), (0, .ref b)]) hx hb dL_law_15 rfl hl (by decide) rfl (fun ls hl => ?_)
  refine lv_iconst (v := 0) hx hb dL_law_16 (by decide) ?_
  refine lv_istore_n (lv' := [(3, .int 0), (2, .ref mo), (1, .ref w), (0, .ref b)]) hx hb dL_law_17 rfl hl (by decide) rfl (fun ls hl => ?_)
  have hP := hP.cg (k := 22) (fun j => if j = 0 then adr none else adr none) rfl (fun j hj => by rcases (show j = 0 ∨ j = 1 by omega) with rfl | rfl <;> rfl)
  have hD := hD.set (p := 22) (e := .inl (cT, 2, .inr (.inr (.inr (.inr (fun j => if j = 0 then adr none else adr none)))))) rfl
  have hP : va_P (dC, dI) vwCl (((wX w o hs pd sl) ++ (wT cI o a t0) ++ (wH cI cT hs hst_ ta ca (0, 0, fun _ => t0)) ++ (wPd cI pd sg nm pd0)) ++ (wSl cI cT sl none none) ++ (wM cI cZ mo bm m0)) H := hP
  have hD : va_D (fun q : Nat => s.heap.size ≤ q) (((wX w o hs pd sl) ++ (wT cI o a t0) ++ (wH cI cT hs hst_ ta ca (0, 0, fun _ => t0)) ++ (wPd cI pd sg nm pd0)) ++ (wSl cI cT sl none none) ++ (wM cI cZ mo bm m0)) := hD
  exact law_loop (G := G) J hst hL rfl ⟨hx, hb, hr, hml, hown, hbw, hlocks⟩ hK hA hE hX hbl hbA w sl o a hs hst_ ta ca pd sg nm mo bm 513 0 (by omega) (by omega) none none t0 (0, 0, fun _ => t0) pd0 m0 hJ0 H _ ls hP hD hS (lv_sub hl [3, 2, 1, 0] rfl)
end G_LZ
/-! the law's start out of both sides; then the skeleton's rows -/
theorem whole_start {p : Program} {e : Env} {s : State} {m : MethodId} {below : List Frame} {meth : Method} {c : Code} (l : Launch) (hflags : l.flags = flags0) {b L : Nat} {xs : Nat → Int32} (hL : L ≤ 2048) (C0 : lw_At p s m meth c b L xs) : W p l e room_1 s m #[Value.ref b] below meth c s.heap [] 0 0 (lw_Z below #[Value.ref b] s) (entryFrame m ([Value.ref b] : List Value).toArray 4) := by
  exact start_of JJ J_steps J_init hL C0
set_option maxHeartbeats 4000000 in
theorem lw_walk (l : Launch) (hflags : l.flags = flags0) (b : Addr) (xs : List Int32) : MetFree l x (headSpec (Jvm.Cond.code x code maxLocals ret :: tables_1) room_1) (lw_P b xs) (fun _ _ _ _ _ => True) lw_Q := by
  refine MetFree.of_bodyS (code := code) (maxLocals := maxLocals) (ret := ret) (by decide) ?_ ?_
  · intro args s m h hn
    obtain ⟨meth, c, h1, h2, h3, h4, h5, h6, -, -⟩ := Cond.code_spec hn (atoms_spec (ws := Jvm.Cond.code x code maxLocals ret :: tables_1) h _ List.mem_cons_self)
    exact ⟨meth, c, h1, h2, h3, h4, h5, h6⟩
  · intro p e s m args below meth c s₁ B hml0 hP _
    obtain ⟨rfl, hx, hbd, hgv⟩ := hP
    obtain ⟨scr, harrAt, hlist, hof, hsmall⟩ := hx
    obtain ⟨hcb, hkn, -, -⟩ := State.arrayAt?_spec harrAt
    have hown : s.vm.findClass R_law = some m.cls := findClass_of_methodNamed B.named
    have hts0 : ∀ c ∈ (Jvm.Cond.code x code maxLocals ret :: tables_1), c.before #[Value.ref b] s = true := atoms_spec (ws := Jvm.Cond.code x code maxLocals ret :: tables_1) B.pre
    have hts : ∀ w ∈ lw_tbl, w.before #[Value.ref b] s = true := k2_hts_sels lw_privs (fun w hw => hts0 w (List.mem_cons_of_mem _ hw)) lw_privs_ok
    have hml : c.maxLocals = 4 := B.maxLocals_eq (hts0 _ List.mem_cons_self)
    have X₀ : Stand p l e room_1 s m #[Value.ref b] below meth c s₁ [] 0 0 := Stand.of_body B
    have hh0 : s₁.heap = s.heap := by rw [B.state]; rfl
    have hsz : scr.slots.size = xs.length := by rw [← Array.length_toList, hlist, List.length_map]
    have hval : ∀ j : Nat, j < xs.length → scr.slots[j]? = some (.int (xs.getD j 0)) := fun j hj => by
      rw [← Array.getElem?_toList, hlist]
      simp [hj]
    have hbl : b < s.heap.size := (Array.getElem?_eq_some_iff.mp hcb).1
    have hX : va_X b xs.length (fun j => xs.getD j 0) s s.heap := ⟨scr, hcb, hof, hkn, hsz, hval⟩
    have K : W p l e room_1 s m #[Value.ref b] below meth c s₁.heap [] 0 0 (lw_Z below #[Value.ref b] s) (entryFrame m ([Value.ref b] : List Value).toArray 4) := by
      rw [hh0]
      exact whole_start l hflags hbd ⟨B.exec, B.bytes, B.returns, hml, hown, hts, hX, hbl, B.notSynchronized, hgv⟩
    obtain ⟨t, a1, o, b1, b2, b3⟩ := K s₁ rfl X₀
    exact ⟨t, o, a1, b1, b2, b3⟩
theorem lw_pre_spec {args : Array Value} {s : State} (h : (Jvm.Cond.and given_1 narrow_1).before args s = true) (hr : rest_1_c.before args s = true) : ∃ (b : Addr) (xs : List Int32), lw_P b xs args s := by
  have hs := flat_of_before _ h
  have hq := flat_of_before _ hr
  have hc : (Cond.count 1).before args s = true := hs _ (by decide +kernel)
  have harr : (Cond.arrayOf (.arg 0) .int).before args s = true := hs _ (by decide +kernel)
  have hle : (Cond.le (.length (.arg 0)) (.int 2048)).before args s = true := hs _ (by decide +kernel)
  have hlen : (Cond.isInt (.length (.arg 0))).before args s = true := hq _ (by decide +kernel)
  have hall : (Cond.all (.arg 0) (.isInt (.elem (.arg 0) (.index 0)))).before args s = true := hq _ (by decide +kernel)
  obtain ⟨b, xs, hb, hx⟩ := State.ints_of_pre rfl harr hlen hall
  have hsm : xs.length < 2 ^ 31 := hx.choose_spec.2.2.2
  have hev : (Term.length (.arg 0)).eval args s none [] s = some (.int xs.length.toInt32) := hx.length_eval hb
  have hv := Cond.le_ints hev (show (Term.int 2048).eval args s none [] s = some (.int 2048) from rfl)
  have hd : xs.length.toInt32 ≤ 2048 := by
    simpa [Cond.before, Cond.holds, hv] using hle
  have hN : xs.length ≤ 2048 := (Int32.ofNat_le_ofNat hsm (by decide)).mp (show Int32.ofNat xs.length ≤ Int32.ofNat 2048 from hd)
  exact ⟨b, xs, Cond.one_arg hc (show args[0]? = some (.ref b) from hb), hx, hN, h⟩
theorem lw_comes (l : Launch) (hflags : l.flags = flags0) : Comes l x (Jvm.Cond.code x code maxLocals ret :: tables_1) room_1 (fun tb e args s => Calls_1 tb e args s ∧ rest_1 tb e args s ∧ Pre_1 tb e args s)
    (fun _ _ args s o t => lw_Q args s o t) := by
  intro p e ha hc hk s m args below hf hfit hheap happ hpre
  obtain ⟨b, xs, hP⟩ := lw_pre_spec hpre.2.2 hpre.2.1
  obtain ⟨k, o, h1, h2, h3, hQ⟩ := lw_walk l hflags b xs p e ha hc hk s m args below hf ((Spec.applies_iff_loose hf).mp happ).1 hP trivial
  exact ⟨k, o, h1, h2, h3, hQ⟩
theorem lw_frame {s t : State} {o : Outcome} {args : Array Value} (h : Framed s o t [] 600000 7302250) :
    Framed s o t (fieldLocs frame_1_writes args s ++ arrayLocs frame_1_arrays args s ++ staticLocs frame_1_statics s) 600000 7302250 := h
theorem lw_limb (L : Cond) (hL : ∀ (args : Array Value) (s t : State), L.after args s (.returned (some (.int 1))) t = true) :
    ArmFor flags0 classFile x code maxLocals ret World_1 tables_1 room_1 Calls_1 rest_1 Pre_1
      (fun tb e a s o t => postC L tb e a s o t ∧ Framed s o t (fieldLocs frame_1_writes a s ++ arrayLocs frame_1_arrays a s ++ staticLocs frame_1_statics s) 600000 7302250) := by
  intro l hflags _ _ p e ha hc hk s m args below hf hfit hheap happ hpre
  obtain ⟨k, o, h1, h2, h3, rfl, hF⟩ := lw_comes l hflags p e ha hc hk s m args below hf hfit hheap happ hpre
  exact ⟨k, _, h1, h2, h3, hL args s _, lw_frame hF⟩
theorem i_vc : Claimed_1_1 ∧ Claimed_1_2 := ⟨lw_limb limb_1_1 (fun args s t => by simp [limb_1_1, Cond.after, Cond.holds, Cond.value]), lw_limb limb_1_2 (fun args s t => Cond.after_iff.mpr (by
  first | (rw [show limb_1_2 = Cond.eq .result (.int 1) from rfl, Cond.eq_ints (x := 1) (y := 1) rfl rfl]; simp; done) | (simp [limb_1_2, Cond.value, Term.eval]; done)))⟩

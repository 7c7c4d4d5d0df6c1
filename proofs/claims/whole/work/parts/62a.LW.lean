section G_LWa
variable {p : Program} {l : Launch} {e : Env} {s : State} {m : MethodId} {args : Array Value} {below : List Frame} {meth : Method} {c : Code} {D : va_G} {cI cZ cT : ClassId}
set_option maxHeartbeats 8000000 in
set_option maxRecDepth 100000 in
theorem lc_set {G : q_G} {bs L : Nat} {xs : Nat → Int32} (J : JT) (hst : St_set J) {Q : State → Prop} (C0 : q_At p s m args meth c code 4 ret RL) (hK : va_K D vwCl (q_tys cI cZ cT) s) (hA : ∀ q, s.heap.size ≤ q → (fun q : Nat => s.heap.size ≤ q) q) (hE : q_E G (fun q : Nat => s.heap.size ≤ q) s) (hX : va_X bs L xs s s.heap) (hbl : bs < s.heap.size) (hbA : ¬ (fun q : Nat => s.heap.size ≤ q) bs) (k : Nat) (hk512 : k < 512) (hi1 : vp_in (nI (4 * k + 1)) L) (hi2 : vp_in (nI (4 * k + 2)) L) (hi3 : vp_in (nI (4 * k + 3)) L) {cells slots : Nat} (hc : cells ≤ room_1.cells) (hc2 : slots ≤ room_1.slots) (w sl o a : Nat) (hs hst_ : Nat) (ta ca : Nat → Nat) (pd sg nm mo : Nat) (b : Nat → Nat) (x0 x1 : Option (Nat × Nat × TT)) (t : TT) (hh : HH) (pp : PP) (mm : MM) (hJ : J k t hh pp (twn x0) (twn x1) mm)
    (kk : ∀ (t : TT) (hh : HH) (pp : PP) (x0 x1 : Option (Nat × Nat × TT)) (mm : MM), J (k + 1) t hh pp (twn x0) (twn x1) mm → ∀ (H : Heap) (locs : List Loc) (ls : Array Slot), va_P D vwCl (((wX w o hs pd sl) ++ (wT cI o a t) ++ (wH cI cT hs hst_ ta ca hh) ++ (wPd cI pd sg nm pp)) ++ (wSl cI cT sl x0 x1) ++ (wM cI cZ mo b mm)) H → va_D (fun q : Nat => s.heap.size ≤ q) (((wX w o hs pd sl) ++ (wT cI o a t) ++ (wH cI cT hs hst_ ta ca hh) ++ (wPd cI pd sg nm pp)) ++ (wSl cI cT sl x0 x1) ++ (wM cI cZ mo b mm)) → va_S (fun q : Nat => s.heap.size ≤ q) s.heap H locs → lv_has ls 4 [(0, .ref bs), (1, .ref w), (2, .ref mo), (3, .int (nI (4 * k)))] → W p l e room_1 s m args below meth c H locs cells slots Q (F0 m 904 ls []))
    (H : Heap) (locs : List Loc) (ls : Array Slot) (hP : va_P D vwCl (((wX w o hs pd sl) ++ (wT cI o a t) ++ (wH cI cT hs hst_ ta ca hh) ++ (wPd cI pd sg nm pp)) ++ (wSl cI cT sl x0 x1) ++ (wM cI cZ mo b mm)) H) (hD : va_D (fun q : Nat => s.heap.size ≤ q) (((wX w o hs pd sl) ++ (wT cI o a t) ++ (wH cI cT hs hst_ ta ca hh) ++ (wPd cI pd sg nm pp)) ++ (wSl cI cT sl x0 x1) ++ (wM cI cZ mo b mm))) (hS : va_S (fun q : Nat => s.heap.size ≤ q) s.heap H locs) (hl : lv_has ls 4 [(0, .ref bs), (1, .ref w), (2, .ref mo), (3, .int (nI (4 * k)))]) : W p l e room_1 s m args below meth c H locs cells slots Q (F0 m 160 ls []) := by
  obtain ⟨hx, hb, hr0, hml, hown, hts, hlocks⟩ := id C0
  have hF : CallFix p m c code 4 s args BW RL := ⟨hx, hb, hml, hown, hts⟩
  obtain ⟨y1, ey1⟩ : ∃ y, y = xs (nI (4 * k + 1)).toNatClampNeg := ⟨_, rfl⟩
  obtain ⟨y2, ey2⟩ : ∃ y, y = xs (nI (4 * k + 2)).toNatClampNeg := ⟨_, rfl⟩
  obtain ⟨y3, ey3⟩ : ∃ y, y = xs (nI (4 * k + 3)).toNatClampNeg := ⟨_, rfl⟩
  obtain ⟨r, z, hr, hz, hv, hJ1⟩ := hst k t hh pp (twn x0) (twn x1) mm y1 y2 hk512 hJ
  refine lv_aload_n hx hb dL_law_160 rfl (lv_at hl 1 rfl) ?_
  refine lv_aload_n hx hb dL_law_161 rfl (lv_at hl 0 rfl) ?_
  refine lv_iload_n hx hb dL_law_162 rfl (lv_at hl 3 rfl) ?_
  refine lv_iconst (v := 1) hx hb dL_law_163 (by decide) ?_
  refine lv_iadd hx hb dL_law_164 ?_
  rw [show nI (4 * k) + 1 = nI (4 * k + 1) from nI_add _ _]
  refine va_sld hx hb hX hbl hbA hS hi1 dL_law_165 ?_
  rw [← ey1]
  refine lv_aload_n hx hb dL_law_166 rfl (lv_at hl 0 rfl) ?_
  refine lv_iload_n hx hb dL_law_167 rfl (lv_at hl 3 rfl) ?_
  refine lv_iconst (v := 2) hx hb dL_law_168 (by decide) ?_
  refine lv_iadd hx hb dL_law_169 ?_
  rw [show nI (4 * k) + 2 = nI (4 * k + 2) from nI_add _ _]
  refine va_sld hx hb hX hbl hbA hS hi2 dL_law_170 ?_
  rw [← ey2]
  refine x_MVp (As := [.int y1, .int y2]) (rest := []) (wr := (wSl cI cT sl x0 x1) ++ (wM cI cZ mo b mm)) (W1 := ((wX w o hs pd sl) ++ (wT cI o a r.2.1) ++ (wH cI cT hs hst_ ta ca r.2.2) ++ (wPd cI pd sg nm pp)) ++ (wSl cI cT sl x0 x1) ++ (wM cI cZ mo b mm)) hF (c_X3_set l D cI cZ cT G _ w sl o a t hs hst_ ta ca hh pd sg nm pp y1 y2 r hr) (cwV 2 hts (gqV mw_631 mw_632 mw_633 mw_51 mw_324) rfl rfl rfl hd_X3_set ⟨Nat.le_of_ble_eq_true rfl, Nat.le_of_ble_eq_true rfl⟩) hK hP hD hS hA q_E_bl (q_E_go hE hS (q_freep (p3_X ((wX w o hs pd sl) ++ (wT cI o a t) ++ (wH cI cT hs hst_ ta ca hh) ++ (wPd cI pd sg nm pp)) (wSl cI cT sl x0 x1) (wM cI cZ mo b mm)) hD hS hA)) (p3_X ((wX w o hs pd sl) ++ (wT cI o a t) ++ (wH cI cT hs hst_ ta ca hh) ++ (wPd cI pd sg nm pp)) (wSl cI cT sl x0 x1) (wM cI cZ mo b mm)) (p3_X ((wX w o hs pd sl) ++ (wT cI o a r.2.1) ++ (wH cI cT hs hst_ ta ca r.2.2) ++ (wPd cI pd sg nm pp)) (wSl cI cT sl x0 x1) (wM cI cZ mo b mm)).symm rfl rfl rfl hl.1 rfl (Nat.le_of_ble_eq_true rfl) dL_law_171 ⟨hc, hc2⟩ (fun H locs hP hD hS => ?_)
  refine lv_aload_n hx hb dL_law_174 rfl (lv_at hl 2 rfl) ?_
  refine lv_aload_n hx hb dL_law_175 rfl (lv_at hl 0 rfl) ?_
  refine lv_iload_n hx hb dL_law_176 rfl (lv_at hl 3 rfl) ?_
  refine lv_iconst (v := 1) hx hb dL_law_177 (by decide) ?_
  refine lv_iadd hx hb dL_law_178 ?_
  rw [show nI (4 * k) + 1 = nI (4 * k + 1) from nI_add _ _]
  refine va_sld hx hb hX hbl hbA hS hi1 dL_law_179 ?_
  rw [← ey1]
  refine lv_aload_n hx hb dL_law_180 rfl (lv_at hl 0 rfl) ?_
  refine lv_iload_n hx hb dL_law_181 rfl (lv_at hl 3 rfl) ?_
  refine lv_iconst (v := 2) hx hb dL_law_182 (by decide) ?_
  refine lv_iadd hx hb dL_law_183 ?_
  rw [show nI (4 * k) + 2 = nI (4 * k + 2) from nI_add _ _]
  refine va_sld hx hb hX hbl hbA hS hi2 dL_law_184 ?_
  rw [← ey2]
  refine x_MVp (As := [.int y1, .int y2]) (rest := [.int r.1]) (wr := ((wX w o hs pd sl) ++ (wT cI o a r.2.1) ++ (wH cI cT hs hst_ ta ca r.2.2) ++ (wPd cI pd sg nm pp)) ++ (wSl cI cT sl x0 x1)) (W1 := ((wX w o hs pd sl) ++ (wT cI o a r.2.1) ++ (wH cI cT hs hst_ ta ca r.2.2) ++ (wPd cI pd sg nm pp)) ++ (wSl cI cT sl x0 x1) ++ (wM cI cZ mo b z.2)) hF (c_X4_set l D cI cZ cT _ mo b mm y1 y2 z hz) (cwV 2 hts (gqV mw_634 mw_635 mw_636 mw_428 mw_515) rfl rfl rfl hd_X4_set ⟨Nat.le_of_ble_eq_true rfl, Nat.le_of_ble_eq_true rfl⟩) hK hP hD hS hA q_T_bl (fun _ _ _ => (trivial : True)) (List.Perm.refl _) (List.Perm.refl _) rfl rfl rfl hl.1 rfl (Nat.le_of_ble_eq_true rfl) dL_law_185 ⟨hc, hc2⟩ (fun H locs hP hD hS => ?_)
  refine lv_icmp_eq (tgt := 904) hx hb dL_law_188 (by decide) (fun c9 => ?_) (fun c9 => ?_)
  · exact kk _ _ _ _ _ _ hJ1 H locs ls hP hD hS hl
  · exact absurd hv c9
set_option maxHeartbeats 8000000 in
set_option maxRecDepth 100000 in
theorem lc_person {G : q_G} {bs L : Nat} {xs : Nat → Int32} (J : JT) (hst : St_person J) {Q : State → Prop} (C0 : q_At p s m args meth c code 4 ret RL) (hK : va_K D vwCl (q_tys cI cZ cT) s) (hA : ∀ q, s.heap.size ≤ q → (fun q : Nat => s.heap.size ≤ q) q) (hE : q_E G (fun q : Nat => s.heap.size ≤ q) s) (hX : va_X bs L xs s s.heap) (hbl : bs < s.heap.size) (hbA : ¬ (fun q : Nat => s.heap.size ≤ q) bs) (k : Nat) (hk512 : k < 512) (hi1 : vp_in (nI (4 * k + 1)) L) (hi2 : vp_in (nI (4 * k + 2)) L) (hi3 : vp_in (nI (4 * k + 3)) L) {cells slots : Nat} (hc : cells ≤ room_1.cells) (hc2 : slots ≤ room_1.slots) (w sl o a : Nat) (hs hst_ : Nat) (ta ca : Nat → Nat) (pd sg nm mo : Nat) (b : Nat → Nat) (x0 x1 : Option (Nat × Nat × TT)) (t : TT) (hh : HH) (pp : PP) (mm : MM) (hJ : J k t hh pp (twn x0) (twn x1) mm)
    (kk : ∀ (t : TT) (hh : HH) (pp : PP) (x0 x1 : Option (Nat × Nat × TT)) (mm : MM), J (k + 1) t hh pp (twn x0) (twn x1) mm → ∀ (H : Heap) (locs : List Loc) (ls : Array Slot), va_P D vwCl (((wX w o hs pd sl) ++ (wT cI o a t) ++ (wH cI cT hs hst_ ta ca hh) ++ (wPd cI pd sg nm pp)) ++ (wSl cI cT sl x0 x1) ++ (wM cI cZ mo b mm)) H → va_D (fun q : Nat => s.heap.size ≤ q) (((wX w o hs pd sl) ++ (wT cI o a t) ++ (wH cI cT hs hst_ ta ca hh) ++ (wPd cI pd sg nm pp)) ++ (wSl cI cT sl x0 x1) ++ (wM cI cZ mo b mm)) → va_S (fun q : Nat => s.heap.size ≤ q) s.heap H locs → lv_has ls 4 [(0, .ref bs), (1, .ref w), (2, .ref mo), (3, .int (nI (4 * k)))] → W p l e room_1 s m args below meth c H locs cells slots Q (F0 m 904 ls []))
    (H : Heap) (locs : List Loc) (ls : Array Slot) (hP : va_P D vwCl (((wX w o hs pd sl) ++ (wT cI o a t) ++ (wH cI cT hs hst_ ta ca hh) ++ (wPd cI pd sg nm pp)) ++ (wSl cI cT sl x0 x1) ++ (wM cI cZ mo b mm)) H) (hD : va_D (fun q : Nat => s.heap.size ≤ q) (((wX w o hs pd sl) ++ (wT cI o a t) ++ (wH cI cT hs hst_ ta ca hh) ++ (wPd cI pd sg nm pp)) ++ (wSl cI cT sl x0 x1) ++ (wM cI cZ mo b mm))) (hS : va_S (fun q : Nat => s.heap.size ≤ q) s.heap H locs) (hl : lv_has ls 4 [(0, .ref bs), (1, .ref w), (2, .ref mo), (3, .int (nI (4 * k)))]) : W p l e room_1 s m args below meth c H locs cells slots Q (F0 m 193 ls []) := by
  obtain ⟨hx, hb, hr0, hml, hown, hts, hlocks⟩ := id C0
  have hF : CallFix p m c code 4 s args BW RL := ⟨hx, hb, hml, hown, hts⟩
  obtain ⟨y1, ey1⟩ : ∃ y, y = xs (nI (4 * k + 1)).toNatClampNeg := ⟨_, rfl⟩
  obtain ⟨y2, ey2⟩ : ∃ y, y = xs (nI (4 * k + 2)).toNatClampNeg := ⟨_, rfl⟩
  obtain ⟨y3, ey3⟩ : ∃ y, y = xs (nI (4 * k + 3)).toNatClampNeg := ⟨_, rfl⟩
  obtain ⟨r, z, hr, hz, hv, hJ1⟩ := hst k t hh pp (twn x0) (twn x1) mm y1 y2 hk512 hJ
  refine lv_aload_n hx hb dL_law_193 rfl (lv_at hl 1 rfl) ?_
  refine lv_aload_n hx hb dL_law_194 rfl (lv_at hl 0 rfl) ?_
  refine lv_iload_n hx hb dL_law_195 rfl (lv_at hl 3 rfl) ?_
  refine lv_iconst (v := 1) hx hb dL_law_196 (by decide) ?_
  refine lv_iadd hx hb dL_law_197 ?_
  rw [show nI (4 * k) + 1 = nI (4 * k + 1) from nI_add _ _]
  refine va_sld hx hb hX hbl hbA hS hi1 dL_law_198 ?_
  rw [← ey1]
  refine lv_aload_n hx hb dL_law_199 rfl (lv_at hl 0 rfl) ?_
  refine lv_iload_n hx hb dL_law_200 rfl (lv_at hl 3 rfl) ?_
  refine lv_iconst (v := 2) hx hb dL_law_201 (by decide) ?_
  refine lv_iadd hx hb dL_law_202 ?_
  rw [show nI (4 * k) + 2 = nI (4 * k + 2) from nI_add _ _]
  refine va_sld hx hb hX hbl hbA hS hi2 dL_law_203 ?_
  rw [← ey2]
  refine x_MVp (As := [.int y1, .int y2]) (rest := []) (wr := (wSl cI cT sl x0 x1) ++ (wM cI cZ mo b mm)) (W1 := ((wX w o hs pd sl) ++ (wT cI o a r.2.1) ++ (wH cI cT hs hst_ ta ca r.2.2) ++ (wPd cI pd sg nm pp)) ++ (wSl cI cT sl x0 x1) ++ (wM cI cZ mo b mm)) hF (c_X3_person l D cI cZ cT G _ w sl o a t hs hst_ ta ca hh pd sg nm pp y1 y2 r hr) (cwV 2 hts (gqV mw_637 mw_638 mw_639 mw_51 mw_327) rfl rfl rfl hd_X3_person ⟨Nat.le_of_ble_eq_true rfl, Nat.le_of_ble_eq_true rfl⟩) hK hP hD hS hA q_E_bl (q_E_go hE hS (q_freep (p3_X ((wX w o hs pd sl) ++ (wT cI o a t) ++ (wH cI cT hs hst_ ta ca hh) ++ (wPd cI pd sg nm pp)) (wSl cI cT sl x0 x1) (wM cI cZ mo b mm)) hD hS hA)) (p3_X ((wX w o hs pd sl) ++ (wT cI o a t) ++ (wH cI cT hs hst_ ta ca hh) ++ (wPd cI pd sg nm pp)) (wSl cI cT sl x0 x1) (wM cI cZ mo b mm)) (p3_X ((wX w o hs pd sl) ++ (wT cI o a r.2.1) ++ (wH cI cT hs hst_ ta ca r.2.2) ++ (wPd cI pd sg nm pp)) (wSl cI cT sl x0 x1) (wM cI cZ mo b mm)).symm rfl rfl rfl hl.1 rfl (Nat.le_of_ble_eq_true rfl) dL_law_204 ⟨hc, hc2⟩ (fun H locs hP hD hS => ?_)
  refine lv_aload_n hx hb dL_law_207 rfl (lv_at hl 2 rfl) ?_
  refine lv_aload_n hx hb dL_law_208 rfl (lv_at hl 0 rfl) ?_
  refine lv_iload_n hx hb dL_law_209 rfl (lv_at hl 3 rfl) ?_
  refine lv_iconst (v := 1) hx hb dL_law_210 (by decide) ?_
  refine lv_iadd hx hb dL_law_211 ?_
  rw [show nI (4 * k) + 1 = nI (4 * k + 1) from nI_add _ _]
  refine va_sld hx hb hX hbl hbA hS hi1 dL_law_212 ?_
  rw [← ey1]
  refine lv_aload_n hx hb dL_law_213 rfl (lv_at hl 0 rfl) ?_
  refine lv_iload_n hx hb dL_law_214 rfl (lv_at hl 3 rfl) ?_
  refine lv_iconst (v := 2) hx hb dL_law_215 (by decide) ?_
  refine lv_iadd hx hb dL_law_216 ?_
  rw [show nI (4 * k) + 2 = nI (4 * k + 2) from nI_add _ _]
  refine va_sld hx hb hX hbl hbA hS hi2 dL_law_217 ?_
  rw [← ey2]
  refine x_MVp (As := [.int y1, .int y2]) (rest := [.int r.1]) (wr := ((wX w o hs pd sl) ++ (wT cI o a r.2.1) ++ (wH cI cT hs hst_ ta ca r.2.2) ++ (wPd cI pd sg nm pp)) ++ (wSl cI cT sl x0 x1)) (W1 := ((wX w o hs pd sl) ++ (wT cI o a r.2.1) ++ (wH cI cT hs hst_ ta ca r.2.2) ++ (wPd cI pd sg nm pp)) ++ (wSl cI cT sl x0 x1) ++ (wM cI cZ mo b z.2)) hF (c_X4_person l D cI cZ cT _ mo b mm y1 y2 z hz) (cwV 2 hts (gqV mw_640 mw_641 mw_642 mw_428 mw_522) rfl rfl rfl hd_X4_person ⟨Nat.le_of_ble_eq_true rfl, Nat.le_of_ble_eq_true rfl⟩) hK hP hD hS hA q_T_bl (fun _ _ _ => (trivial : True)) (List.Perm.refl _) (List.Perm.refl _) rfl rfl rfl hl.1 rfl (Nat.le_of_ble_eq_true rfl) dL_law_218 ⟨hc, hc2⟩ (fun H locs hP hD hS => ?_)
  refine lv_icmp_eq (tgt := 904) hx hb dL_law_221 (by decide) (fun c9 => ?_) (fun c9 => ?_)
  · exact kk _ _ _ _ _ _ hJ1 H locs ls hP hD hS hl
  · exact absurd hv c9
end G_LWa

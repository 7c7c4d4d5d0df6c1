section G_LWb
variable {p : Program} {l : Launch} {e : Env} {s : State} {m : MethodId} {args : Array Value} {below : List Frame} {meth : Method} {c : Code} {D : va_G} {cI cZ cT : ClassId}
set_option maxHeartbeats 8000000 in
set_option maxRecDepth 100000 in
theorem lc_second {G : q_G} {bs L : Nat} {xs : Nat → Int32} (J : JT) (hst : St_second J) {Q : State → Prop} (C0 : q_At p s m args meth c code 4 ret RL) (hK : va_K D vwCl (q_tys cI cZ cT) s) (hA : ∀ q, s.heap.size ≤ q → (fun q : Nat => s.heap.size ≤ q) q) (hE : q_E G (fun q : Nat => s.heap.size ≤ q) s) (hX : va_X bs L xs s s.heap) (hbl : bs < s.heap.size) (hbA : ¬ (fun q : Nat => s.heap.size ≤ q) bs) (k : Nat) (hk512 : k < 512) (hi1 : vp_in (nI (4 * k + 1)) L) (hi2 : vp_in (nI (4 * k + 2)) L) (hi3 : vp_in (nI (4 * k + 3)) L) {cells slots : Nat} (hc : cells ≤ room_1.cells) (hc2 : slots ≤ room_1.slots) (w sl o a : Nat) (hs hst_ : Nat) (ta ca : Nat → Nat) (pd sg nm mo : Nat) (b : Nat → Nat) (x0 x1 : Option (Nat × Nat × TT)) (t : TT) (hh : HH) (pp : PP) (mm : MM) (hJ : J k t hh pp (twn x0) (twn x1) mm)
    (kk : ∀ (t : TT) (hh : HH) (pp : PP) (x0 x1 : Option (Nat × Nat × TT)) (mm : MM), J (k + 1) t hh pp (twn x0) (twn x1) mm → ∀ (H : Heap) (locs : List Loc) (ls : Array Slot), va_P D vwCl (((wX w o hs pd sl) ++ (wT cI o a t) ++ (wH cI cT hs hst_ ta ca hh) ++ (wPd cI pd sg nm pp)) ++ (wSl cI cT sl x0 x1) ++ (wM cI cZ mo b mm)) H → va_D (fun q : Nat => s.heap.size ≤ q) (((wX w o hs pd sl) ++ (wT cI o a t) ++ (wH cI cT hs hst_ ta ca hh) ++ (wPd cI pd sg nm pp)) ++ (wSl cI cT sl x0 x1) ++ (wM cI cZ mo b mm)) → va_S (fun q : Nat => s.heap.size ≤ q) s.heap H locs → lv_has ls 4 [(0, .ref bs), (1, .ref w), (2, .ref mo), (3, .int (nI (4 * k)))] → W p l e room_1 s m args below meth c H locs cells slots Q (F0 m 904 ls []))
    (H : Heap) (locs : List Loc) (ls : Array Slot) (hP : va_P D vwCl (((wX w o hs pd sl) ++ (wT cI o a t) ++ (wH cI cT hs hst_ ta ca hh) ++ (wPd cI pd sg nm pp)) ++ (wSl cI cT sl x0 x1) ++ (wM cI cZ mo b mm)) H) (hD : va_D (fun q : Nat => s.heap.size ≤ q) (((wX w o hs pd sl) ++ (wT cI o a t) ++ (wH cI cT hs hst_ ta ca hh) ++ (wPd cI pd sg nm pp)) ++ (wSl cI cT sl x0 x1) ++ (wM cI cZ mo b mm))) (hS : va_S (fun q : Nat => s.heap.size ≤ q) s.heap H locs) (hl : lv_has ls 4 [(0, .ref bs), (1, .ref w), (2, .ref mo), (3, .int (nI (4 * k)))]) : W p l e room_1 s m args below meth c H locs cells slots Q (F0 m 226 ls []) := by
  obtain ⟨hx, hb, hr0, hml, hown, hts, hlocks⟩ := id C0
  have hF : CallFix p m c code 4 s args BW RL := ⟨hx, hb, hml, hown, hts⟩
  obtain ⟨y1, ey1⟩ : ∃ y, y = xs (nI (4 * k + 1)).toNatClampNeg := ⟨_, rfl⟩
  obtain ⟨y2, ey2⟩ : ∃ y, y = xs (nI (4 * k + 2)).toNatClampNeg := ⟨_, rfl⟩
  obtain ⟨y3, ey3⟩ : ∃ y, y = xs (nI (4 * k + 3)).toNatClampNeg := ⟨_, rfl⟩
  obtain ⟨r, z, hr, hz, hv, hJ1⟩ := hst k t hh pp (twn x0) (twn x1) mm y1 y2 hk512 hJ
  refine lv_aload_n hx hb dL_law_226 rfl (lv_at hl 1 rfl) ?_
  refine lv_aload_n hx hb dL_law_227 rfl (lv_at hl 0 rfl) ?_
  refine lv_iload_n hx hb dL_law_228 rfl (lv_at hl 3 rfl) ?_
  refine lv_iconst (v := 1) hx hb dL_law_229 (by decide) ?_
  refine lv_iadd hx hb dL_law_230 ?_
  rw [show nI (4 * k) + 1 = nI (4 * k + 1) from nI_add _ _]
  refine va_sld hx hb hX hbl hbA hS hi1 dL_law_231 ?_
  rw [← ey1]
  refine lv_aload_n hx hb dL_law_232 rfl (lv_at hl 0 rfl) ?_
  refine lv_iload_n hx hb dL_law_233 rfl (lv_at hl 3 rfl) ?_
  refine lv_iconst (v := 2) hx hb dL_law_234 (by decide) ?_
  refine lv_iadd hx hb dL_law_235 ?_
  rw [show nI (4 * k) + 2 = nI (4 * k + 2) from nI_add _ _]
  refine va_sld hx hb hX hbl hbA hS hi2 dL_law_236 ?_
  rw [← ey2]
  refine x_MVp (As := [.int y1, .int y2]) (rest := []) (wr := (wSl cI cT sl x0 x1) ++ (wM cI cZ mo b mm)) (W1 := ((wX w o hs pd sl) ++ (wT cI o a r.2.1) ++ (wH cI cT hs hst_ ta ca r.2.2) ++ (wPd cI pd sg nm pp)) ++ (wSl cI cT sl x0 x1) ++ (wM cI cZ mo b mm)) hF (c_X3_second l D cI cZ cT G _ w sl o a t hs hst_ ta ca hh pd sg nm pp y1 y2 r hr) (cwV 2 hts (gqV mw_643 mw_644 mw_645 mw_51 mw_330) rfl rfl rfl hd_X3_second ⟨Nat.le_of_ble_eq_true rfl, Nat.le_of_ble_eq_true rfl⟩) hK hP hD hS hA q_E_bl (q_E_go hE hS (q_freep (p3_X ((wX w o hs pd sl) ++ (wT cI o a t) ++ (wH cI cT hs hst_ ta ca hh) ++ (wPd cI pd sg nm pp)) (wSl cI cT sl x0 x1) (wM cI cZ mo b mm)) hD hS hA)) (p3_X ((wX w o hs pd sl) ++ (wT cI o a t) ++ (wH cI cT hs hst_ ta ca hh) ++ (wPd cI pd sg nm pp)) (wSl cI cT sl x0 x1) (wM cI cZ mo b mm)) (p3_X ((wX w o hs pd sl) ++ (wT cI o a r.2.1) ++ (wH cI cT hs hst_ ta ca r.2.2) ++ (wPd cI pd sg nm pp)) (wSl cI cT sl x0 x1) (wM cI cZ mo b mm)).symm rfl rfl rfl hl.1 rfl (Nat.le_of_ble_eq_true rfl) dL_law_237 ⟨hc, hc2⟩ (fun H locs hP hD hS => ?_)
  refine lv_aload_n hx hb dL_law_240 rfl (lv_at hl 2 rfl) ?_
  refine lv_aload_n hx hb dL_law_241 rfl (lv_at hl 0 rfl) ?_
  refine lv_iload_n hx hb dL_law_242 rfl (lv_at hl 3 rfl) ?_
  refine lv_iconst (v := 1) hx hb dL_law_243 (by decide) ?_
  refine lv_iadd hx hb dL_law_244 ?_
  rw [show nI (4 * k) + 1 = nI (4 * k + 1) from nI_add _ _]
  refine va_sld hx hb hX hbl hbA hS hi1 dL_law_245 ?_
  rw [← ey1]
  refine lv_aload_n hx hb dL_law_246 rfl (lv_at hl 0 rfl) ?_
  refine lv_iload_n hx hb dL_law_247 rfl (lv_at hl 3 rfl) ?_
  refine lv_iconst (v := 2) hx hb dL_law_248 (by decide) ?_
  refine lv_iadd hx hb dL_law_249 ?_
  rw [show nI (4 * k) + 2 = nI (4 * k + 2) from nI_add _ _]
  refine va_sld hx hb hX hbl hbA hS hi2 dL_law_250 ?_
  rw [← ey2]
  refine x_MVp (As := [.int y1, .int y2]) (rest := [.int r.1]) (wr := ((wX w o hs pd sl) ++ (wT cI o a r.2.1) ++ (wH cI cT hs hst_ ta ca r.2.2) ++ (wPd cI pd sg nm pp)) ++ (wSl cI cT sl x0 x1)) (W1 := ((wX w o hs pd sl) ++ (wT cI o a r.2.1) ++ (wH cI cT hs hst_ ta ca r.2.2) ++ (wPd cI pd sg nm pp)) ++ (wSl cI cT sl x0 x1) ++ (wM cI cZ mo b z.2)) hF (c_X4_second l D cI cZ cT _ mo b mm y1 y2 z hz) (cwV 2 hts (gqV mw_646 mw_647 mw_648 mw_428 mw_529) rfl rfl rfl hd_X4_second ⟨Nat.le_of_ble_eq_true rfl, Nat.le_of_ble_eq_true rfl⟩) hK hP hD hS hA q_T_bl (fun _ _ _ => (trivial : True)) (List.Perm.refl _) (List.Perm.refl _) rfl rfl rfl hl.1 rfl (Nat.le_of_ble_eq_true rfl) dL_law_251 ⟨hc, hc2⟩ (fun H locs hP hD hS => ?_)
  refine lv_icmp_eq (tgt := 904) hx hb dL_law_254 (by decide) (fun c9 => ?_) (fun c9 => ?_)
  · exact kk _ _ _ _ _ _ hJ1 H locs ls hP hD hS hl
  · exact absurd hv c9
set_option maxHeartbeats 8000000 in
set_option maxRecDepth 100000 in
theorem lc_allow {G : q_G} {bs L : Nat} {xs : Nat → Int32} (J : JT) (hst : St_allow J) {Q : State → Prop} (C0 : q_At p s m args meth c code 4 ret RL) (hK : va_K D vwCl (q_tys cI cZ cT) s) (hA : ∀ q, s.heap.size ≤ q → (fun q : Nat => s.heap.size ≤ q) q) (hE : q_E G (fun q : Nat => s.heap.size ≤ q) s) (hX : va_X bs L xs s s.heap) (hbl : bs < s.heap.size) (hbA : ¬ (fun q : Nat => s.heap.size ≤ q) bs) (k : Nat) (hk512 : k < 512) (hi1 : vp_in (nI (4 * k + 1)) L) (hi2 : vp_in (nI (4 * k + 2)) L) (hi3 : vp_in (nI (4 * k + 3)) L) {cells slots : Nat} (hc : cells ≤ room_1.cells) (hc2 : slots ≤ room_1.slots) (w sl o a : Nat) (hs hst_ : Nat) (ta ca : Nat → Nat) (pd sg nm mo : Nat) (b : Nat → Nat) (x0 x1 : Option (Nat × Nat × TT)) (t : TT) (hh : HH) (pp : PP) (mm : MM) (hJ : J k t hh pp (twn x0) (twn x1) mm)
    (kk : ∀ (t : TT) (hh : HH) (pp : PP) (x0 x1 : Option (Nat × Nat × TT)) (mm : MM), J (k + 1) t hh pp (twn x0) (twn x1) mm → ∀ (H : Heap) (locs : List Loc) (ls : Array Slot), va_P D vwCl (((wX w o hs pd sl) ++ (wT cI o a t) ++ (wH cI cT hs hst_ ta ca hh) ++ (wPd cI pd sg nm pp)) ++ (wSl cI cT sl x0 x1) ++ (wM cI cZ mo b mm)) H → va_D (fun q : Nat => s.heap.size ≤ q) (((wX w o hs pd sl) ++ (wT cI o a t) ++ (wH cI cT hs hst_ ta ca hh) ++ (wPd cI pd sg nm pp)) ++ (wSl cI cT sl x0 x1) ++ (wM cI cZ mo b mm)) → va_S (fun q : Nat => s.heap.size ≤ q) s.heap H locs → lv_has ls 4 [(0, .ref bs), (1, .ref w), (2, .ref mo), (3, .int (nI (4 * k)))] → W p l e room_1 s m args below meth c H locs cells slots Q (F0 m 904 ls []))
    (H : Heap) (locs : List Loc) (ls : Array Slot) (hP : va_P D vwCl (((wX w o hs pd sl) ++ (wT cI o a t) ++ (wH cI cT hs hst_ ta ca hh) ++ (wPd cI pd sg nm pp)) ++ (wSl cI cT sl x0 x1) ++ (wM cI cZ mo b mm)) H) (hD : va_D (fun q : Nat => s.heap.size ≤ q) (((wX w o hs pd sl) ++ (wT cI o a t) ++ (wH cI cT hs hst_ ta ca hh) ++ (wPd cI pd sg nm pp)) ++ (wSl cI cT sl x0 x1) ++ (wM cI cZ mo b mm))) (hS : va_S (fun q : Nat => s.heap.size ≤ q) s.heap H locs) (hl : lv_has ls 4 [(0, .ref bs), (1, .ref w), (2, .ref mo), (3, .int (nI (4 * k)))]) : W p l e room_1 s m args below meth c H locs cells slots Q (F0 m 259 ls []) := by
  obtain ⟨hx, hb, hr0, hml, hown, hts, hlocks⟩ := id C0
  have hF : CallFix p m c code 4 s args BW RL := ⟨hx, hb, hml, hown, hts⟩
  obtain ⟨y1, ey1⟩ : ∃ y, y = xs (nI (4 * k + 1)).toNatClampNeg := ⟨_, rfl⟩
  obtain ⟨y2, ey2⟩ : ∃ y, y = xs (nI (4 * k + 2)).toNatClampNeg := ⟨_, rfl⟩
  obtain ⟨y3, ey3⟩ : ∃ y, y = xs (nI (4 * k + 3)).toNatClampNeg := ⟨_, rfl⟩
  obtain ⟨r, z, hr, hz, hv, hJ1⟩ := hst k t hh pp (twn x0) (twn x1) mm y1 hk512 hJ
  refine lv_aload_n hx hb dL_law_259 rfl (lv_at hl 1 rfl) ?_
  refine lv_aload_n hx hb dL_law_260 rfl (lv_at hl 0 rfl) ?_
  refine lv_iload_n hx hb dL_law_261 rfl (lv_at hl 3 rfl) ?_
  refine lv_iconst (v := 1) hx hb dL_law_262 (by decide) ?_
  refine lv_iadd hx hb dL_law_263 ?_
  rw [show nI (4 * k) + 1 = nI (4 * k + 1) from nI_add _ _]
  refine va_sld hx hb hX hbl hbA hS hi1 dL_law_264 ?_
  rw [← ey1]
  refine x_MVp (As := [.int y1]) (rest := []) (wr := (wSl cI cT sl x0 x1) ++ (wM cI cZ mo b mm)) (W1 := ((wX w o hs pd sl) ++ (wT cI o a r.2.1) ++ (wH cI cT hs hst_ ta ca r.2.2) ++ (wPd cI pd sg nm pp)) ++ (wSl cI cT sl x0 x1) ++ (wM cI cZ mo b mm)) hF (c_X3_allow l D cI cZ cT G _ w sl o a t hs hst_ ta ca hh pd sg nm pp y1 r hr) (cwV 1 hts (gqV mw_649 mw_650 mw_651 mw_51 mw_333) rfl rfl rfl hd_X3_allow ⟨Nat.le_of_ble_eq_true rfl, Nat.le_of_ble_eq_true rfl⟩) hK hP hD hS hA q_E_bl (q_E_go hE hS (q_freep (p3_X ((wX w o hs pd sl) ++ (wT cI o a t) ++ (wH cI cT hs hst_ ta ca hh) ++ (wPd cI pd sg nm pp)) (wSl cI cT sl x0 x1) (wM cI cZ mo b mm)) hD hS hA)) (p3_X ((wX w o hs pd sl) ++ (wT cI o a t) ++ (wH cI cT hs hst_ ta ca hh) ++ (wPd cI pd sg nm pp)) (wSl cI cT sl x0 x1) (wM cI cZ mo b mm)) (p3_X ((wX w o hs pd sl) ++ (wT cI o a r.2.1) ++ (wH cI cT hs hst_ ta ca r.2.2) ++ (wPd cI pd sg nm pp)) (wSl cI cT sl x0 x1) (wM cI cZ mo b mm)).symm rfl rfl rfl hl.1 rfl (Nat.le_of_ble_eq_true rfl) dL_law_265 ⟨hc, hc2⟩ (fun H locs hP hD hS => ?_)
  refine lv_aload_n hx hb dL_law_268 rfl (lv_at hl 2 rfl) ?_
  refine lv_aload_n hx hb dL_law_269 rfl (lv_at hl 0 rfl) ?_
  refine lv_iload_n hx hb dL_law_270 rfl (lv_at hl 3 rfl) ?_
  refine lv_iconst (v := 1) hx hb dL_law_271 (by decide) ?_
  refine lv_iadd hx hb dL_law_272 ?_
  rw [show nI (4 * k) + 1 = nI (4 * k + 1) from nI_add _ _]
  refine va_sld hx hb hX hbl hbA hS hi1 dL_law_273 ?_
  rw [← ey1]
  refine x_MVp (As := [.int y1]) (rest := [.int r.1]) (wr := ((wX w o hs pd sl) ++ (wT cI o a r.2.1) ++ (wH cI cT hs hst_ ta ca r.2.2) ++ (wPd cI pd sg nm pp)) ++ (wSl cI cT sl x0 x1)) (W1 := ((wX w o hs pd sl) ++ (wT cI o a r.2.1) ++ (wH cI cT hs hst_ ta ca r.2.2) ++ (wPd cI pd sg nm pp)) ++ (wSl cI cT sl x0 x1) ++ (wM cI cZ mo b z.2)) hF (c_X4_allow l D cI cZ cT _ mo b mm y1 z hz) (cwV 1 hts (gqV mw_652 mw_653 mw_654 mw_428 mw_530) rfl rfl rfl hd_X4_allow ⟨Nat.le_of_ble_eq_true rfl, Nat.le_of_ble_eq_true rfl⟩) hK hP hD hS hA q_T_bl (fun _ _ _ => (trivial : True)) (List.Perm.refl _) (List.Perm.refl _) rfl rfl rfl hl.1 rfl (Nat.le_of_ble_eq_true rfl) dL_law_274 ⟨hc, hc2⟩ (fun H locs hP hD hS => ?_)
  refine lv_icmp_eq (tgt := 904) hx hb dL_law_277 (by decide) (fun c9 => ?_) (fun c9 => ?_)
  · exact kk _ _ _ _ _ _ hJ1 H locs ls hP hD hS hl
  · exact absurd hv c9
set_option maxHeartbeats 8000000 in
set_option maxRecDepth 100000 in
theorem lc_insult {G : q_G} {bs L : Nat} {xs : Nat → Int32} (J : JT) (hst : St_insult J) {Q : State → Prop} (C0 : q_At p s m args meth c code 4 ret RL) (hK : va_K D vwCl (q_tys cI cZ cT) s) (hA : ∀ q, s.heap.size ≤ q → (fun q : Nat => s.heap.size ≤ q) q) (hE : q_E G (fun q : Nat => s.heap.size ≤ q) s) (hX : va_X bs L xs s s.heap) (hbl : bs < s.heap.size) (hbA : ¬ (fun q : Nat => s.heap.size ≤ q) bs) (k : Nat) (hk512 : k < 512) (hi1 : vp_in (nI (4 * k + 1)) L) (hi2 : vp_in (nI (4 * k + 2)) L) (hi3 : vp_in (nI (4 * k + 3)) L) {cells slots : Nat} (hc : cells ≤ room_1.cells) (hc2 : slots ≤ room_1.slots) (w sl o a : Nat) (hs hst_ : Nat) (ta ca : Nat → Nat) (pd sg nm mo : Nat) (b : Nat → Nat) (x0 x1 : Option (Nat × Nat × TT)) (t : TT) (hh : HH) (pp : PP) (mm : MM) (hJ : J k t hh pp (twn x0) (twn x1) mm)
    (kk : ∀ (t : TT) (hh : HH) (pp : PP) (x0 x1 : Option (Nat × Nat × TT)) (mm : MM), J (k + 1) t hh pp (twn x0) (twn x1) mm → ∀ (H : Heap) (locs : List Loc) (ls : Array Slot), va_P D vwCl (((wX w o hs pd sl) ++ (wT cI o a t) ++ (wH cI cT hs hst_ ta ca hh) ++ (wPd cI pd sg nm pp)) ++ (wSl cI cT sl x0 x1) ++ (wM cI cZ mo b mm)) H → va_D (fun q : Nat => s.heap.size ≤ q) (((wX w o hs pd sl) ++ (wT cI o a t) ++ (wH cI cT hs hst_ ta ca hh) ++ (wPd cI pd sg nm pp)) ++ (wSl cI cT sl x0 x1) ++ (wM cI cZ mo b mm)) → va_S (fun q : Nat => s.heap.size ≤ q) s.heap H locs → lv_has ls 4 [(0, .ref bs), (1, .ref w), (2, .ref mo), (3, .int (nI (4 * k)))] → W p l e room_1 s m args below meth c H locs cells slots Q (F0 m 904 ls []))
    (H : Heap) (locs : List Loc) (ls : Array Slot) (hP : va_P D vwCl (((wX w o hs pd sl) ++ (wT cI o a t) ++ (wH cI cT hs hst_ ta ca hh) ++ (wPd cI pd sg nm pp)) ++ (wSl cI cT sl x0 x1) ++ (wM cI cZ mo b mm)) H) (hD : va_D (fun q : Nat => s.heap.size ≤ q) (((wX w o hs pd sl) ++ (wT cI o a t) ++ (wH cI cT hs hst_ ta ca hh) ++ (wPd cI pd sg nm pp)) ++ (wSl cI cT sl x0 x1) ++ (wM cI cZ mo b mm))) (hS : va_S (fun q : Nat => s.heap.size ≤ q) s.heap H locs) (hl : lv_has ls 4 [(0, .ref bs), (1, .ref w), (2, .ref mo), (3, .int (nI (4 * k)))]) : W p l e room_1 s m args below meth c H locs cells slots Q (F0 m 282 ls []) := by
  obtain ⟨hx, hb, hr0, hml, hown, hts, hlocks⟩ := id C0
  have hF : CallFix p m c code 4 s args BW RL := ⟨hx, hb, hml, hown, hts⟩
  obtain ⟨y1, ey1⟩ : ∃ y, y = xs (nI (4 * k + 1)).toNatClampNeg := ⟨_, rfl⟩
  obtain ⟨y2, ey2⟩ : ∃ y, y = xs (nI (4 * k + 2)).toNatClampNeg := ⟨_, rfl⟩
  obtain ⟨y3, ey3⟩ : ∃ y, y = xs (nI (4 * k + 3)).toNatClampNeg := ⟨_, rfl⟩
  obtain ⟨r, z, hr, hz, hv, hJ1⟩ := hst k t hh pp (twn x0) (twn x1) mm y1 y2 y3 hk512 hJ
  refine lv_aload_n hx hb dL_law_282 rfl (lv_at hl 1 rfl) ?_
  refine lv_aload_n hx hb dL_law_283 rfl (lv_at hl 0 rfl) ?_
  refine lv_iload_n hx hb dL_law_284 rfl (lv_at hl 3 rfl) ?_
  refine lv_iconst (v := 1) hx hb dL_law_285 (by decide) ?_
  refine lv_iadd hx hb dL_law_286 ?_
  rw [show nI (4 * k) + 1 = nI (4 * k + 1) from nI_add _ _]
  refine va_sld hx hb hX hbl hbA hS hi1 dL_law_287 ?_
  rw [← ey1]
  refine lv_aload_n hx hb dL_law_288 rfl (lv_at hl 0 rfl) ?_
  refine lv_iload_n hx hb dL_law_289 rfl (lv_at hl 3 rfl) ?_
  refine lv_iconst (v := 2) hx hb dL_law_290 (by decide) ?_
  refine lv_iadd hx hb dL_law_291 ?_
  rw [show nI (4 * k) + 2 = nI (4 * k + 2) from nI_add _ _]
  refine va_sld hx hb hX hbl hbA hS hi2 dL_law_292 ?_
  rw [← ey2]
  refine lv_aload_n hx hb dL_law_293 rfl (lv_at hl 0 rfl) ?_
  refine lv_iload_n hx hb dL_law_294 rfl (lv_at hl 3 rfl) ?_
  refine lv_iconst (v := 3) hx hb dL_law_295 (by decide) ?_
  refine lv_iadd hx hb dL_law_296 ?_
  rw [show nI (4 * k) + 3 = nI (4 * k + 3) from nI_add _ _]
  refine va_sld hx hb hX hbl hbA hS hi3 dL_law_297 ?_
  rw [← ey3]
  refine x_MVp (As := [.int y1, .int y2, .int y3]) (rest := []) (wr := (wSl cI cT sl x0 x1) ++ (wM cI cZ mo b mm)) (W1 := ((wX w o hs pd sl) ++ (wT cI o a r.2.1) ++ (wH cI cT hs hst_ ta ca r.2.2) ++ (wPd cI pd sg nm pp)) ++ (wSl cI cT sl x0 x1) ++ (wM cI cZ mo b mm)) hF (c_X3_insult l D cI cZ cT G _ w sl o a t hs hst_ ta ca hh pd sg nm pp y1 y2 y3 r hr) (cwV 3 hts (gqV mw_655 mw_656 mw_657 mw_51 mw_336) rfl rfl rfl hd_X3_insult ⟨Nat.le_of_ble_eq_true rfl, Nat.le_of_ble_eq_true rfl⟩) hK hP hD hS hA q_E_bl (q_E_go hE hS (q_freep (p3_X ((wX w o hs pd sl) ++ (wT cI o a t) ++ (wH cI cT hs hst_ ta ca hh) ++ (wPd cI pd sg nm pp)) (wSl cI cT sl x0 x1) (wM cI cZ mo b mm)) hD hS hA)) (p3_X ((wX w o hs pd sl) ++ (wT cI o a t) ++ (wH cI cT hs hst_ ta ca hh) ++ (wPd cI pd sg nm pp)) (wSl cI cT sl x0 x1) (wM cI cZ mo b mm)) (p3_X ((wX w o hs pd sl) ++ (wT cI o a r.2.1) ++ (wH cI cT hs hst_ ta ca r.2.2) ++ (wPd cI pd sg nm pp)) (wSl cI cT sl x0 x1) (wM cI cZ mo b mm)).symm rfl rfl rfl hl.1 rfl (Nat.le_of_ble_eq_true rfl) dL_law_298 ⟨hc, hc2⟩ (fun H locs hP hD hS => ?_)
  refine lv_aload_n hx hb dL_law_301 rfl (lv_at hl 2 rfl) ?_
  refine lv_aload_n hx hb dL_law_302 rfl (lv_at hl 0 rfl) ?_
  refine lv_iload_n hx hb dL_law_303 rfl (lv_at hl 3 rfl) ?_
  refine lv_iconst (v := 1) hx hb dL_law_304 (by decide) ?_
  refine lv_iadd hx hb dL_law_305 ?_
  rw [show nI (4 * k) + 1 = nI (4 * k + 1) from nI_add _ _]
  refine va_sld hx hb hX hbl hbA hS hi1 dL_law_306 ?_
  rw [← ey1]
  refine lv_aload_n hx hb dL_law_307 rfl (lv_at hl 0 rfl) ?_
  refine lv_iload_n hx hb dL_law_308 rfl (lv_at hl 3 rfl) ?_
  refine lv_iconst (v := 2) hx hb dL_law_309 (by decide) ?_
  refine lv_iadd hx hb dL_law_310 ?_
  rw [show nI (4 * k) + 2 = nI (4 * k + 2) from nI_add _ _]
  refine va_sld hx hb hX hbl hbA hS hi2 dL_law_311 ?_
  rw [← ey2]
  refine lv_aload_n hx hb dL_law_312 rfl (lv_at hl 0 rfl) ?_
  refine lv_iload_n hx hb dL_law_313 rfl (lv_at hl 3 rfl) ?_
  refine lv_iconst (v := 3) hx hb dL_law_314 (by decide) ?_
  refine lv_iadd hx hb dL_law_315 ?_
  rw [show nI (4 * k) + 3 = nI (4 * k + 3) from nI_add _ _]
  refine va_sld hx hb hX hbl hbA hS hi3 dL_law_316 ?_
  rw [← ey3]
  refine x_MVp (As := [.int y1, .int y2, .int y3]) (rest := [.int r.1]) (wr := ((wX w o hs pd sl) ++ (wT cI o a r.2.1) ++ (wH cI cT hs hst_ ta ca r.2.2) ++ (wPd cI pd sg nm pp)) ++ (wSl cI cT sl x0 x1)) (W1 := ((wX w o hs pd sl) ++ (wT cI o a r.2.1) ++ (wH cI cT hs hst_ ta ca r.2.2) ++ (wPd cI pd sg nm pp)) ++ (wSl cI cT sl x0 x1) ++ (wM cI cZ mo b z.2)) hF (c_X4_insult l D cI cZ cT _ mo b mm y1 y2 y3 z hz) (cwV 3 hts (gqV mw_658 mw_659 mw_660 mw_428 mw_537) rfl rfl rfl hd_X4_insult ⟨Nat.le_of_ble_eq_true rfl, Nat.le_of_ble_eq_true rfl⟩) hK hP hD hS hA q_T_bl (fun _ _ _ => (trivial : True)) (List.Perm.refl _) (List.Perm.refl _) rfl rfl rfl hl.1 rfl (Nat.le_of_ble_eq_true rfl) dL_law_317 ⟨hc, hc2⟩ (fun H locs hP hD hS => ?_)
  refine lv_icmp_eq (tgt := 904) hx hb dL_law_320 (by decide) (fun c9 => ?_) (fun c9 => ?_)
  · exact kk _ _ _ _ _ _ hJ1 H locs ls hP hD hS hl
  · exact absurd hv c9
set_option maxHeartbeats 8000000 in
set_option maxRecDepth 100000 in
theorem lc_settle {G : q_G} {bs L : Nat} {xs : Nat → Int32} (J : JT) (hst : St_settle J) {Q : State → Prop} (C0 : q_At p s m args meth c code 4 ret RL) (hK : va_K D vwCl (q_tys cI cZ cT) s) (hA : ∀ q, s.heap.size ≤ q → (fun q : Nat => s.heap.size ≤ q) q) (hE : q_E G (fun q : Nat => s.heap.size ≤ q) s) (hX : va_X bs L xs s s.heap) (hbl : bs < s.heap.size) (hbA : ¬ (fun q : Nat => s.heap.size ≤ q) bs) (k : Nat) (hk512 : k < 512) (hi1 : vp_in (nI (4 * k + 1)) L) (hi2 : vp_in (nI (4 * k + 2)) L) (hi3 : vp_in (nI (4 * k + 3)) L) {cells slots : Nat} (hc : cells ≤ room_1.cells) (hc2 : slots ≤ room_1.slots) (w sl o a : Nat) (hs hst_ : Nat) (ta ca : Nat → Nat) (pd sg nm mo : Nat) (b : Nat → Nat) (x0 x1 : Option (Nat × Nat × TT)) (t : TT) (hh : HH) (pp : PP) (mm : MM) (hJ : J k t hh pp (twn x0) (twn x1) mm)
    (kk : ∀ (t : TT) (hh : HH) (pp : PP) (x0 x1 : Option (Nat × Nat × TT)) (mm : MM), J (k + 1) t hh pp (twn x0) (twn x1) mm → ∀ (H : Heap) (locs : List Loc) (ls : Array Slot), va_P D vwCl (((wX w o hs pd sl) ++ (wT cI o a t) ++ (wH cI cT hs hst_ ta ca hh) ++ (wPd cI pd sg nm pp)) ++ (wSl cI cT sl x0 x1) ++ (wM cI cZ mo b mm)) H → va_D (fun q : Nat => s.heap.size ≤ q) (((wX w o hs pd sl) ++ (wT cI o a t) ++ (wH cI cT hs hst_ ta ca hh) ++ (wPd cI pd sg nm pp)) ++ (wSl cI cT sl x0 x1) ++ (wM cI cZ mo b mm)) → va_S (fun q : Nat => s.heap.size ≤ q) s.heap H locs → lv_has ls 4 [(0, .ref bs), (1, .ref w), (2, .ref mo), (3, .int (nI (4 * k)))] → W p l e room_1 s m args below meth c H locs cells slots Q (F0 m 904 ls []))
    (H : Heap) (locs : List Loc) (ls : Array Slot) (hP : va_P D vwCl (((wX w o hs pd sl) ++ (wT cI o a t) ++ (wH cI cT hs hst_ ta ca hh) ++ (wPd cI pd sg nm pp)) ++ (wSl cI cT sl x0 x1) ++ (wM cI cZ mo b mm)) H) (hD : va_D (fun q : Nat => s.heap.size ≤ q) (((wX w o hs pd sl) ++ (wT cI o a t) ++ (wH cI cT hs hst_ ta ca hh) ++ (wPd cI pd sg nm pp)) ++ (wSl cI cT sl x0 x1) ++ (wM cI cZ mo b mm))) (hS : va_S (fun q : Nat => s.heap.size ≤ q) s.heap H locs) (hl : lv_has ls 4 [(0, .ref bs), (1, .ref w), (2, .ref mo), (3, .int (nI (4 * k)))]) : W p l e room_1 s m args below meth c H locs cells slots Q (F0 m 325 ls []) := by
  obtain ⟨hx, hb, hr0, hml, hown, hts, hlocks⟩ := id C0
  have hF : CallFix p m c code 4 s args BW RL := ⟨hx, hb, hml, hown, hts⟩
  obtain ⟨y1, ey1⟩ : ∃ y, y = xs (nI (4 * k + 1)).toNatClampNeg := ⟨_, rfl⟩
  obtain ⟨y2, ey2⟩ : ∃ y, y = xs (nI (4 * k + 2)).toNatClampNeg := ⟨_, rfl⟩
  obtain ⟨y3, ey3⟩ : ∃ y, y = xs (nI (4 * k + 3)).toNatClampNeg := ⟨_, rfl⟩
  obtain ⟨r, z, hr, hz, hv, hJ1⟩ := hst k t hh pp (twn x0) (twn x1) mm y1 y2 hk512 hJ
  refine lv_aload_n hx hb dL_law_325 rfl (lv_at hl 1 rfl) ?_
  refine lv_aload_n hx hb dL_law_326 rfl (lv_at hl 0 rfl) ?_
  refine lv_iload_n hx hb dL_law_327 rfl (lv_at hl 3 rfl) ?_
  refine lv_iconst (v := 1) hx hb dL_law_328 (by decide) ?_
  refine lv_iadd hx hb dL_law_329 ?_
  rw [show nI (4 * k) + 1 = nI (4 * k + 1) from nI_add _ _]
  refine va_sld hx hb hX hbl hbA hS hi1 dL_law_330 ?_
  rw [← ey1]
  refine lv_aload_n hx hb dL_law_331 rfl (lv_at hl 0 rfl) ?_
  refine lv_iload_n hx hb dL_law_332 rfl (lv_at hl 3 rfl) ?_
  refine lv_iconst (v := 2) hx hb dL_law_333 (by decide) ?_
  refine lv_iadd hx hb dL_law_334 ?_
  rw [show nI (4 * k) + 2 = nI (4 * k + 2) from nI_add _ _]
  refine va_sld hx hb hX hbl hbA hS hi2 dL_law_335 ?_
  rw [← ey2]
  refine x_MVp (As := [.int y1, .int y2]) (rest := []) (wr := (wSl cI cT sl x0 x1) ++ (wM cI cZ mo b mm)) (W1 := ((wX w o hs pd sl) ++ (wT cI o a r.2.1) ++ (wH cI cT hs hst_ ta ca r.2.2) ++ (wPd cI pd sg nm pp)) ++ (wSl cI cT sl x0 x1) ++ (wM cI cZ mo b mm)) hF (c_X3_settle l D cI cZ cT G _ w sl o a t hs hst_ ta ca hh pd sg nm pp y1 y2 r hr) (cwV 2 hts (gqV mw_661 mw_662 mw_663 mw_51 mw_339) rfl rfl rfl hd_X3_settle ⟨Nat.le_of_ble_eq_true rfl, Nat.le_of_ble_eq_true rfl⟩) hK hP hD hS hA q_E_bl (q_E_go hE hS (q_freep (p3_X ((wX w o hs pd sl) ++ (wT cI o a t) ++ (wH cI cT hs hst_ ta ca hh) ++ (wPd cI pd sg nm pp)) (wSl cI cT sl x0 x1) (wM cI cZ mo b mm)) hD hS hA)) (p3_X ((wX w o hs pd sl) ++ (wT cI o a t) ++ (wH cI cT hs hst_ ta ca hh) ++ (wPd cI pd sg nm pp)) (wSl cI cT sl x0 x1) (wM cI cZ mo b mm)) (p3_X ((wX w o hs pd sl) ++ (wT cI o a r.2.1) ++ (wH cI cT hs hst_ ta ca r.2.2) ++ (wPd cI pd sg nm pp)) (wSl cI cT sl x0 x1) (wM cI cZ mo b mm)).symm rfl rfl rfl hl.1 rfl (Nat.le_of_ble_eq_true rfl) dL_law_336 ⟨hc, hc2⟩ (fun H locs hP hD hS => ?_)
  refine lv_aload_n hx hb dL_law_339 rfl (lv_at hl 2 rfl) ?_
  refine lv_aload_n hx hb dL_law_340 rfl (lv_at hl 0 rfl) ?_
  refine lv_iload_n hx hb dL_law_341 rfl (lv_at hl 3 rfl) ?_
  refine lv_iconst (v := 1) hx hb dL_law_342 (by decide) ?_
  refine lv_iadd hx hb dL_law_343 ?_
  rw [show nI (4 * k) + 1 = nI (4 * k + 1) from nI_add _ _]
  refine va_sld hx hb hX hbl hbA hS hi1 dL_law_344 ?_
  rw [← ey1]
  refine lv_aload_n hx hb dL_law_345 rfl (lv_at hl 0 rfl) ?_
  refine lv_iload_n hx hb dL_law_346 rfl (lv_at hl 3 rfl) ?_
  refine lv_iconst (v := 2) hx hb dL_law_347 (by decide) ?_
  refine lv_iadd hx hb dL_law_348 ?_
  rw [show nI (4 * k) + 2 = nI (4 * k + 2) from nI_add _ _]
  refine va_sld hx hb hX hbl hbA hS hi2 dL_law_349 ?_
  rw [← ey2]
  refine x_MVp (As := [.int y1, .int y2]) (rest := [.int r.1]) (wr := ((wX w o hs pd sl) ++ (wT cI o a r.2.1) ++ (wH cI cT hs hst_ ta ca r.2.2) ++ (wPd cI pd sg nm pp)) ++ (wSl cI cT sl x0 x1)) (W1 := ((wX w o hs pd sl) ++ (wT cI o a r.2.1) ++ (wH cI cT hs hst_ ta ca r.2.2) ++ (wPd cI pd sg nm pp)) ++ (wSl cI cT sl x0 x1) ++ (wM cI cZ mo b z.2)) hF (c_X4_settle l D cI cZ cT _ mo b mm y1 y2 z hz) (cwV 2 hts (gqV mw_664 mw_665 mw_666 mw_428 mw_541) rfl rfl rfl hd_X4_settle ⟨Nat.le_of_ble_eq_true rfl, Nat.le_of_ble_eq_true rfl⟩) hK hP hD hS hA q_T_bl (fun _ _ _ => (trivial : True)) (List.Perm.refl _) (List.Perm.refl _) rfl rfl rfl hl.1 rfl (Nat.le_of_ble_eq_true rfl) dL_law_350 ⟨hc, hc2⟩ (fun H locs hP hD hS => ?_)
  refine lv_icmp_eq (tgt := 904) hx hb dL_law_353 (by decide) (fun c9 => ?_) (fun c9 => ?_)
  · exact kk _ _ _ _ _ _ hJ1 H locs ls hP hD hS hl
  · exact absurd hv c9
set_option maxHeartbeats 8000000 in
set_option maxRecDepth 100000 in
theorem lc_fight {G : q_G} {bs L : Nat} {xs : Nat → Int32} (J : JT) (hst : St_fight J) {Q : State → Prop} (C0 : q_At p s m args meth c code 4 ret RL) (hK : va_K D vwCl (q_tys cI cZ cT) s) (hA : ∀ q, s.heap.size ≤ q → (fun q : Nat => s.heap.size ≤ q) q) (hE : q_E G (fun q : Nat => s.heap.size ≤ q) s) (hX : va_X bs L xs s s.heap) (hbl : bs < s.heap.size) (hbA : ¬ (fun q : Nat => s.heap.size ≤ q) bs) (k : Nat) (hk512 : k < 512) (hi1 : vp_in (nI (4 * k + 1)) L) (hi2 : vp_in (nI (4 * k + 2)) L) (hi3 : vp_in (nI (4 * k + 3)) L) {cells slots : Nat} (hc : cells ≤ room_1.cells) (hc2 : slots ≤ room_1.slots) (w sl o a : Nat) (hs hst_ : Nat) (ta ca : Nat → Nat) (pd sg nm mo : Nat) (b : Nat → Nat) (x0 x1 : Option (Nat × Nat × TT)) (t : TT) (hh : HH) (pp : PP) (mm : MM) (hJ : J k t hh pp (twn x0) (twn x1) mm)
    (kk : ∀ (t : TT) (hh : HH) (pp : PP) (x0 x1 : Option (Nat × Nat × TT)) (mm : MM), J (k + 1) t hh pp (twn x0) (twn x1) mm → ∀ (H : Heap) (locs : List Loc) (ls : Array Slot), va_P D vwCl (((wX w o hs pd sl) ++ (wT cI o a t) ++ (wH cI cT hs hst_ ta ca hh) ++ (wPd cI pd sg nm pp)) ++ (wSl cI cT sl x0 x1) ++ (wM cI cZ mo b mm)) H → va_D (fun q : Nat => s.heap.size ≤ q) (((wX w o hs pd sl) ++ (wT cI o a t) ++ (wH cI cT hs hst_ ta ca hh) ++ (wPd cI pd sg nm pp)) ++ (wSl cI cT sl x0 x1) ++ (wM cI cZ mo b mm)) → va_S (fun q : Nat => s.heap.size ≤ q) s.heap H locs → lv_has ls 4 [(0, .ref bs), (1, .ref w), (2, .ref mo), (3, .int (nI (4 * k)))] → W p l e room_1 s m args below meth c H locs cells slots Q (F0 m 904 ls []))
    (H : Heap) (locs : List Loc) (ls : Array Slot) (hP : va_P D vwCl (((wX w o hs pd sl) ++ (wT cI o a t) ++ (wH cI cT hs hst_ ta ca hh) ++ (wPd cI pd sg nm pp)) ++ (wSl cI cT sl x0 x1) ++ (wM cI cZ mo b mm)) H) (hD : va_D (fun q : Nat => s.heap.size ≤ q) (((wX w o hs pd sl) ++ (wT cI o a t) ++ (wH cI cT hs hst_ ta ca hh) ++ (wPd cI pd sg nm pp)) ++ (wSl cI cT sl x0 x1) ++ (wM cI cZ mo b mm))) (hS : va_S (fun q : Nat => s.heap.size ≤ q) s.heap H locs) (hl : lv_has ls 4 [(0, .ref bs), (1, .ref w), (2, .ref mo), (3, .int (nI (4 * k)))]) : W p l e room_1 s m args below meth c H locs cells slots Q (F0 m 358 ls []) := by
  obtain ⟨hx, hb, hr0, hml, hown, hts, hlocks⟩ := id C0
  have hF : CallFix p m c code 4 s args BW RL := ⟨hx, hb, hml, hown, hts⟩
  obtain ⟨y1, ey1⟩ : ∃ y, y = xs (nI (4 * k + 1)).toNatClampNeg := ⟨_, rfl⟩
  obtain ⟨y2, ey2⟩ : ∃ y, y = xs (nI (4 * k + 2)).toNatClampNeg := ⟨_, rfl⟩
  obtain ⟨y3, ey3⟩ : ∃ y, y = xs (nI (4 * k + 3)).toNatClampNeg := ⟨_, rfl⟩
  obtain ⟨r, z, hr, hz, hv, hJ1⟩ := hst k t hh pp (twn x0) (twn x1) mm y1 hk512 hJ
  refine lv_aload_n hx hb dL_law_358 rfl (lv_at hl 1 rfl) ?_
  refine lv_aload_n hx hb dL_law_359 rfl (lv_at hl 0 rfl) ?_
  refine lv_iload_n hx hb dL_law_360 rfl (lv_at hl 3 rfl) ?_
  refine lv_iconst (v := 1) hx hb dL_law_361 (by decide) ?_
  refine lv_iadd hx hb dL_law_362 ?_
  rw [show nI (4 * k) + 1 = nI (4 * k + 1) from nI_add _ _]
  refine va_sld hx hb hX hbl hbA hS hi1 dL_law_363 ?_
  rw [← ey1]
  refine x_MVp (As := [.int y1]) (rest := []) (wr := (wSl cI cT sl x0 x1) ++ (wM cI cZ mo b mm)) (W1 := ((wX w o hs pd sl) ++ (wT cI o a r.2.1) ++ (wH cI cT hs hst_ ta ca r.2.2) ++ (wPd cI pd sg nm pp)) ++ (wSl cI cT sl x0 x1) ++ (wM cI cZ mo b mm)) hF (c_X3_fight l D cI cZ cT G _ w sl o a t hs hst_ ta ca hh pd sg nm pp y1 r hr) (cwV 1 hts (gqV mw_667 mw_668 mw_669 mw_51 mw_342) rfl rfl rfl hd_X3_fight ⟨Nat.le_of_ble_eq_true rfl, Nat.le_of_ble_eq_true rfl⟩) hK hP hD hS hA q_E_bl (q_E_go hE hS (q_freep (p3_X ((wX w o hs pd sl) ++ (wT cI o a t) ++ (wH cI cT hs hst_ ta ca hh) ++ (wPd cI pd sg nm pp)) (wSl cI cT sl x0 x1) (wM cI cZ mo b mm)) hD hS hA)) (p3_X ((wX w o hs pd sl) ++ (wT cI o a t) ++ (wH cI cT hs hst_ ta ca hh) ++ (wPd cI pd sg nm pp)) (wSl cI cT sl x0 x1) (wM cI cZ mo b mm)) (p3_X ((wX w o hs pd sl) ++ (wT cI o a r.2.1) ++ (wH cI cT hs hst_ ta ca r.2.2) ++ (wPd cI pd sg nm pp)) (wSl cI cT sl x0 x1) (wM cI cZ mo b mm)).symm rfl rfl rfl hl.1 rfl (Nat.le_of_ble_eq_true rfl) dL_law_364 ⟨hc, hc2⟩ (fun H locs hP hD hS => ?_)
  refine lv_aload_n hx hb dL_law_367 rfl (lv_at hl 2 rfl) ?_
  refine lv_aload_n hx hb dL_law_368 rfl (lv_at hl 0 rfl) ?_
  refine lv_iload_n hx hb dL_law_369 rfl (lv_at hl 3 rfl) ?_
  refine lv_iconst (v := 1) hx hb dL_law_370 (by decide) ?_
  refine lv_iadd hx hb dL_law_371 ?_
  rw [show nI (4 * k) + 1 = nI (4 * k + 1) from nI_add _ _]
  refine va_sld hx hb hX hbl hbA hS hi1 dL_law_372 ?_
  rw [← ey1]
  refine x_MVp (As := [.int y1]) (rest := [.int r.1]) (wr := ((wX w o hs pd sl) ++ (wT cI o a r.2.1) ++ (wH cI cT hs hst_ ta ca r.2.2) ++ (wPd cI pd sg nm pp)) ++ (wSl cI cT sl x0 x1)) (W1 := ((wX w o hs pd sl) ++ (wT cI o a r.2.1) ++ (wH cI cT hs hst_ ta ca r.2.2) ++ (wPd cI pd sg nm pp)) ++ (wSl cI cT sl x0 x1) ++ (wM cI cZ mo b z.2)) hF (c_X4_fight l D cI cZ cT _ mo b mm y1 z hz) (cwV 1 hts (gqV mw_670 mw_671 mw_672 mw_428 mw_545) rfl rfl rfl hd_X4_fight ⟨Nat.le_of_ble_eq_true rfl, Nat.le_of_ble_eq_true rfl⟩) hK hP hD hS hA q_T_bl (fun _ _ _ => (trivial : True)) (List.Perm.refl _) (List.Perm.refl _) rfl rfl rfl hl.1 rfl (Nat.le_of_ble_eq_true rfl) dL_law_373 ⟨hc, hc2⟩ (fun H locs hP hD hS => ?_)
  refine lv_icmp_eq (tgt := 904) hx hb dL_law_376 (by decide) (fun c9 => ?_) (fun c9 => ?_)
  · exact kk _ _ _ _ _ _ hJ1 H locs ls hP hD hS hl
  · exact absurd hv c9
end G_LWb

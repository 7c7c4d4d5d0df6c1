section G_LWc
variable {p : Program} {l : Launch} {e : Env} {s : State} {m : MethodId} {args : Array Value} {below : List Frame} {meth : Method} {c : Code} {D : va_G} {cI cZ cT : ClassId}
set_option maxHeartbeats 8000000 in
set_option maxRecDepth 100000 in
theorem lc_swear {G : q_G} {bs L : Nat} {xs : Nat → Int32} (J : JT) (hst : St_swear J) {Q : State → Prop} (C0 : q_At p s m args meth c code 4 ret RL) (hK : va_K D vwCl (q_tys cI cZ cT) s) (hA : ∀ q, s.heap.size ≤ q → (fun q : Nat => s.heap.size ≤ q) q) (hE : q_E G (fun q : Nat => s.heap.size ≤ q) s) (hX : va_X bs L xs s s.heap) (hbl : bs < s.heap.size) (hbA : ¬ (fun q : Nat => s.heap.size ≤ q) bs) (k : Nat) (hk512 : k < 512) (hi1 : vp_in (nI (4 * k + 1)) L) (hi2 : vp_in (nI (4 * k + 2)) L) (hi3 : vp_in (nI (4 * k + 3)) L) {cells slots : Nat} (hc : cells ≤ room_1.cells) (hc2 : slots ≤ room_1.slots) (w sl o a : Nat) (hs hst_ : Nat) (ta ca : Nat → Nat) (pd sg nm mo : Nat) (b : Nat → Nat) (x0 x1 : Option (Nat × Nat × TT)) (t : TT) (hh : HH) (pp : PP) (mm : MM) (hJ : J k t hh pp (twn x0) (twn x1) mm)
    (kk : ∀ (t : TT) (hh : HH) (pp : PP) (x0 x1 : Option (Nat × Nat × TT)) (mm : MM), J (k + 1) t hh pp (twn x0) (twn x1) mm → ∀ (H : Heap) (locs : List Loc) (ls : Array Slot), va_P D vwCl (((wX w o hs pd sl) ++ (wT cI o a t) ++ (wH cI cT hs hst_ ta ca hh) ++ (wPd cI pd sg nm pp)) ++ (wSl cI cT sl x0 x1) ++ (wM cI cZ mo b mm)) H → va_D (fun q : Nat => s.heap.size ≤ q) (((wX w o hs pd sl) ++ (wT cI o a t) ++ (wH cI cT hs hst_ ta ca hh) ++ (wPd cI pd sg nm pp)) ++ (wSl cI cT sl x0 x1) ++ (wM cI cZ mo b mm)) → va_S (fun q : Nat => s.heap.size ≤ q) s.heap H locs → lv_has ls 4 [(0, .ref bs), (1, .ref w), (2, .ref mo), (3, .int (nI (4 * k)))] → W p l e room_1 s m args below meth c H locs cells slots Q (F0 m 904 ls []))
    (H : Heap) (locs : List Loc) (ls : Array Slot) (hP : va_P D vwCl (((wX w o hs pd sl) ++ (wT cI o a t) ++ (wH cI cT hs hst_ ta ca hh) ++ (wPd cI pd sg nm pp)) ++ (wSl cI cT sl x0 x1) ++ (wM cI cZ mo b mm)) H) (hD : va_D (fun q : Nat => s.heap.size ≤ q) (((wX w o hs pd sl) ++ (wT cI o a t) ++ (wH cI cT hs hst_ ta ca hh) ++ (wPd cI pd sg nm pp)) ++ (wSl cI cT sl x0 x1) ++ (wM cI cZ mo b mm))) (hS : va_S (fun q : Nat => s.heap.size ≤ q) s.heap H locs) (hl : lv_has ls 4 [(0, .ref bs), (1, .ref w), (2, .ref mo), (3, .int (nI (4 * k)))]) : W p l e room_1 s m args below meth c H locs cells slots Q (F0 m 381 ls []) := by
  obtain ⟨hx, hb, hr0, hml, hown, hts, hlocks⟩ := id C0
  have hF : CallFix p m c code 4 s args BW RL := ⟨hx, hb, hml, hown, hts⟩
  obtain ⟨y1, ey1⟩ : ∃ y, y = xs (nI (4 * k + 1)).toNatClampNeg := ⟨_, rfl⟩
  obtain ⟨y2, ey2⟩ : ∃ y, y = xs (nI (4 * k + 2)).toNatClampNeg := ⟨_, rfl⟩
  obtain ⟨y3, ey3⟩ : ∃ y, y = xs (nI (4 * k + 3)).toNatClampNeg := ⟨_, rfl⟩
  obtain ⟨r, z, hr, hz, hv, hJ1⟩ := hst k t hh pp (twn x0) (twn x1) mm y1 hk512 hJ
  refine lv_aload_n hx hb dL_law_381 rfl (lv_at hl 1 rfl) ?_
  refine lv_aload_n hx hb dL_law_382 rfl (lv_at hl 0 rfl) ?_
  refine lv_iload_n hx hb dL_law_383 rfl (lv_at hl 3 rfl) ?_
  refine lv_iconst (v := 1) hx hb dL_law_384 (by decide) ?_
  refine lv_iadd hx hb dL_law_385 ?_
  rw [show nI (4 * k) + 1 = nI (4 * k + 1) from nI_add _ _]
  refine va_sld hx hb hX hbl hbA hS hi1 dL_law_386 ?_
  rw [← ey1]
  refine x_MVp (As := [.int y1]) (rest := []) (wr := (wSl cI cT sl x0 x1) ++ (wM cI cZ mo b mm)) (W1 := ((wX w o hs pd sl) ++ (wT cI o a r.2.1) ++ (wH cI cT hs hst_ ta ca r.2.2) ++ (wPd cI pd sg nm pp)) ++ (wSl cI cT sl x0 x1) ++ (wM cI cZ mo b mm)) hF (c_X3_swear l D cI cZ cT G _ w sl o a t hs hst_ ta ca hh pd sg nm pp y1 r hr) (cwV 1 hts (gqV mw_673 mw_674 mw_675 mw_51 mw_345) rfl rfl rfl hd_X3_swear ⟨Nat.le_of_ble_eq_true rfl, Nat.le_of_ble_eq_true rfl⟩) hK hP hD hS hA q_E_bl (q_E_go hE hS (q_freep (p3_X ((wX w o hs pd sl) ++ (wT cI o a t) ++ (wH cI cT hs hst_ ta ca hh) ++ (wPd cI pd sg nm pp)) (wSl cI cT sl x0 x1) (wM cI cZ mo b mm)) hD hS hA)) (p3_X ((wX w o hs pd sl) ++ (wT cI o a t) ++ (wH cI cT hs hst_ ta ca hh) ++ (wPd cI pd sg nm pp)) (wSl cI cT sl x0 x1) (wM cI cZ mo b mm)) (p3_X ((wX w o hs pd sl) ++ (wT cI o a r.2.1) ++ (wH cI cT hs hst_ ta ca r.2.2) ++ (wPd cI pd sg nm pp)) (wSl cI cT sl x0 x1) (wM cI cZ mo b mm)).symm rfl rfl rfl hl.1 rfl (Nat.le_of_ble_eq_true rfl) dL_law_387 ⟨hc, hc2⟩ (fun H locs hP hD hS => ?_)
  refine lv_aload_n hx hb dL_law_390 rfl (lv_at hl 2 rfl) ?_
  refine lv_aload_n hx hb dL_law_391 rfl (lv_at hl 0 rfl) ?_
  refine lv_iload_n hx hb dL_law_392 rfl (lv_at hl 3 rfl) ?_
  refine lv_iconst (v := 1) hx hb dL_law_393 (by decide) ?_
  refine lv_iadd hx hb dL_law_394 ?_
  rw [show nI (4 * k) + 1 = nI (4 * k + 1) from nI_add _ _]
  refine va_sld hx hb hX hbl hbA hS hi1 dL_law_395 ?_
  rw [← ey1]
  refine x_MVp (As := [.int y1]) (rest := [.int r.1]) (wr := ((wX w o hs pd sl) ++ (wT cI o a r.2.1) ++ (wH cI cT hs hst_ ta ca r.2.2) ++ (wPd cI pd sg nm pp)) ++ (wSl cI cT sl x0 x1)) (W1 := ((wX w o hs pd sl) ++ (wT cI o a r.2.1) ++ (wH cI cT hs hst_ ta ca r.2.2) ++ (wPd cI pd sg nm pp)) ++ (wSl cI cT sl x0 x1) ++ (wM cI cZ mo b z.2)) hF (c_X4_swear l D cI cZ cT _ mo b mm y1 z hz) (cwV 1 hts (gqV mw_676 mw_677 mw_678 mw_428 mw_549) rfl rfl rfl hd_X4_swear ⟨Nat.le_of_ble_eq_true rfl, Nat.le_of_ble_eq_true rfl⟩) hK hP hD hS hA q_T_bl (fun _ _ _ => (trivial : True)) (List.Perm.refl _) (List.Perm.refl _) rfl rfl rfl hl.1 rfl (Nat.le_of_ble_eq_true rfl) dL_law_396 ⟨hc, hc2⟩ (fun H locs hP hD hS => ?_)
  refine lv_icmp_eq (tgt := 904) hx hb dL_law_399 (by decide) (fun c9 => ?_) (fun c9 => ?_)
  · exact kk _ _ _ _ _ _ hJ1 H locs ls hP hD hS hl
  · exact absurd hv c9
set_option maxHeartbeats 8000000 in
set_option maxRecDepth 100000 in
theorem lc_pass {G : q_G} {bs L : Nat} {xs : Nat → Int32} (J : JT) (hst : St_pass J) {Q : State → Prop} (C0 : q_At p s m args meth c code 4 ret RL) (hK : va_K D vwCl (q_tys cI cZ cT) s) (hA : ∀ q, s.heap.size ≤ q → (fun q : Nat => s.heap.size ≤ q) q) (hE : q_E G (fun q : Nat => s.heap.size ≤ q) s) (hX : va_X bs L xs s s.heap) (hbl : bs < s.heap.size) (hbA : ¬ (fun q : Nat => s.heap.size ≤ q) bs) (k : Nat) (hk512 : k < 512) (hi1 : vp_in (nI (4 * k + 1)) L) (hi2 : vp_in (nI (4 * k + 2)) L) (hi3 : vp_in (nI (4 * k + 3)) L) {cells slots : Nat} (hc : cells ≤ room_1.cells) (hc2 : slots ≤ room_1.slots) (w sl o a : Nat) (hs hst_ : Nat) (ta ca : Nat → Nat) (pd sg nm mo : Nat) (b : Nat → Nat) (x0 x1 : Option (Nat × Nat × TT)) (t : TT) (hh : HH) (pp : PP) (mm : MM) (hJ : J k t hh pp (twn x0) (twn x1) mm)
    (kk : ∀ (t : TT) (hh : HH) (pp : PP) (x0 x1 : Option (Nat × Nat × TT)) (mm : MM), J (k + 1) t hh pp (twn x0) (twn x1) mm → ∀ (H : Heap) (locs : List Loc) (ls : Array Slot), va_P D vwCl (((wX w o hs pd sl) ++ (wT cI o a t) ++ (wH cI cT hs hst_ ta ca hh) ++ (wPd cI pd sg nm pp)) ++ (wSl cI cT sl x0 x1) ++ (wM cI cZ mo b mm)) H → va_D (fun q : Nat => s.heap.size ≤ q) (((wX w o hs pd sl) ++ (wT cI o a t) ++ (wH cI cT hs hst_ ta ca hh) ++ (wPd cI pd sg nm pp)) ++ (wSl cI cT sl x0 x1) ++ (wM cI cZ mo b mm)) → va_S (fun q : Nat => s.heap.size ≤ q) s.heap H locs → lv_has ls 4 [(0, .ref bs), (1, .ref w), (2, .ref mo), (3, .int (nI (4 * k)))] → W p l e room_1 s m args below meth c H locs cells slots Q (F0 m 904 ls []))
    (H : Heap) (locs : List Loc) (ls : Array Slot) (hP : va_P D vwCl (((wX w o hs pd sl) ++ (wT cI o a t) ++ (wH cI cT hs hst_ ta ca hh) ++ (wPd cI pd sg nm pp)) ++ (wSl cI cT sl x0 x1) ++ (wM cI cZ mo b mm)) H) (hD : va_D (fun q : Nat => s.heap.size ≤ q) (((wX w o hs pd sl) ++ (wT cI o a t) ++ (wH cI cT hs hst_ ta ca hh) ++ (wPd cI pd sg nm pp)) ++ (wSl cI cT sl x0 x1) ++ (wM cI cZ mo b mm))) (hS : va_S (fun q : Nat => s.heap.size ≤ q) s.heap H locs) (hl : lv_has ls 4 [(0, .ref bs), (1, .ref w), (2, .ref mo), (3, .int (nI (4 * k)))]) : W p l e room_1 s m args below meth c H locs cells slots Q (F0 m 404 ls []) := by
  obtain ⟨hx, hb, hr0, hml, hown, hts, hlocks⟩ := id C0
  have hF : CallFix p m c code 4 s args BW RL := ⟨hx, hb, hml, hown, hts⟩
  obtain ⟨y1, ey1⟩ : ∃ y, y = xs (nI (4 * k + 1)).toNatClampNeg := ⟨_, rfl⟩
  obtain ⟨y2, ey2⟩ : ∃ y, y = xs (nI (4 * k + 2)).toNatClampNeg := ⟨_, rfl⟩
  obtain ⟨y3, ey3⟩ : ∃ y, y = xs (nI (4 * k + 3)).toNatClampNeg := ⟨_, rfl⟩
  obtain ⟨r, z, hr, hz, hv, hJ1⟩ := hst k t hh pp (twn x0) (twn x1) mm y1 hk512 hJ
  refine lv_aload_n hx hb dL_law_404 rfl (lv_at hl 1 rfl) ?_
  refine lv_aload_n hx hb dL_law_405 rfl (lv_at hl 0 rfl) ?_
  refine lv_iload_n hx hb dL_law_406 rfl (lv_at hl 3 rfl) ?_
  refine lv_iconst (v := 1) hx hb dL_law_407 (by decide) ?_
  refine lv_iadd hx hb dL_law_408 ?_
  rw [show nI (4 * k) + 1 = nI (4 * k + 1) from nI_add _ _]
  refine va_sld hx hb hX hbl hbA hS hi1 dL_law_409 ?_
  rw [← ey1]
  refine x_MVp (As := [.int y1]) (rest := []) (wr := (wSl cI cT sl x0 x1) ++ (wM cI cZ mo b mm)) (W1 := ((wX w o hs pd sl) ++ (wT cI o a r.2.1) ++ (wH cI cT hs hst_ ta ca r.2.2) ++ (wPd cI pd sg nm pp)) ++ (wSl cI cT sl x0 x1) ++ (wM cI cZ mo b mm)) hF (c_X3_pass l D cI cZ cT G _ w sl o a t hs hst_ ta ca hh pd sg nm pp y1 r hr) (cwV 1 hts (gqV mw_679 mw_680 mw_681 mw_51 mw_356) rfl rfl rfl hd_X3_pass ⟨Nat.le_of_ble_eq_true rfl, Nat.le_of_ble_eq_true rfl⟩) hK hP hD hS hA q_E_bl (q_E_go hE hS (q_freep (p3_X ((wX w o hs pd sl) ++ (wT cI o a t) ++ (wH cI cT hs hst_ ta ca hh) ++ (wPd cI pd sg nm pp)) (wSl cI cT sl x0 x1) (wM cI cZ mo b mm)) hD hS hA)) (p3_X ((wX w o hs pd sl) ++ (wT cI o a t) ++ (wH cI cT hs hst_ ta ca hh) ++ (wPd cI pd sg nm pp)) (wSl cI cT sl x0 x1) (wM cI cZ mo b mm)) (p3_X ((wX w o hs pd sl) ++ (wT cI o a r.2.1) ++ (wH cI cT hs hst_ ta ca r.2.2) ++ (wPd cI pd sg nm pp)) (wSl cI cT sl x0 x1) (wM cI cZ mo b mm)).symm rfl rfl rfl hl.1 rfl (Nat.le_of_ble_eq_true rfl) dL_law_410 ⟨hc, hc2⟩ (fun H locs hP hD hS => ?_)
  refine lv_aload_n hx hb dL_law_413 rfl (lv_at hl 2 rfl) ?_
  refine lv_aload_n hx hb dL_law_414 rfl (lv_at hl 0 rfl) ?_
  refine lv_iload_n hx hb dL_law_415 rfl (lv_at hl 3 rfl) ?_
  refine lv_iconst (v := 1) hx hb dL_law_416 (by decide) ?_
  refine lv_iadd hx hb dL_law_417 ?_
  rw [show nI (4 * k) + 1 = nI (4 * k + 1) from nI_add _ _]
  refine va_sld hx hb hX hbl hbA hS hi1 dL_law_418 ?_
  rw [← ey1]
  refine x_MVp (As := [.int y1]) (rest := [.int r.1]) (wr := ((wX w o hs pd sl) ++ (wT cI o a r.2.1) ++ (wH cI cT hs hst_ ta ca r.2.2) ++ (wPd cI pd sg nm pp)) ++ (wSl cI cT sl x0 x1)) (W1 := ((wX w o hs pd sl) ++ (wT cI o a r.2.1) ++ (wH cI cT hs hst_ ta ca r.2.2) ++ (wPd cI pd sg nm pp)) ++ (wSl cI cT sl x0 x1) ++ (wM cI cZ mo b z.2)) hF (c_X4_pass l D cI cZ cT _ mo b mm y1 z hz) (cwV 1 hts (gqV mw_682 mw_683 mw_684 mw_428 mw_553) rfl rfl rfl hd_X4_pass ⟨Nat.le_of_ble_eq_true rfl, Nat.le_of_ble_eq_true rfl⟩) hK hP hD hS hA q_T_bl (fun _ _ _ => (trivial : True)) (List.Perm.refl _) (List.Perm.refl _) rfl rfl rfl hl.1 rfl (Nat.le_of_ble_eq_true rfl) dL_law_419 ⟨hc, hc2⟩ (fun H locs hP hD hS => ?_)
  refine lv_icmp_eq (tgt := 904) hx hb dL_law_422 (by decide) (fun c9 => ?_) (fun c9 => ?_)
  · exact kk _ _ _ _ _ _ hJ1 H locs ls hP hD hS hl
  · exact absurd hv c9
set_option maxHeartbeats 8000000 in
set_option maxRecDepth 100000 in
theorem lc_of {G : q_G} {bs L : Nat} {xs : Nat → Int32} (J : JT) (hst : St_of J) {Q : State → Prop} (C0 : q_At p s m args meth c code 4 ret RL) (hK : va_K D vwCl (q_tys cI cZ cT) s) (hA : ∀ q, s.heap.size ≤ q → (fun q : Nat => s.heap.size ≤ q) q) (hE : q_E G (fun q : Nat => s.heap.size ≤ q) s) (hX : va_X bs L xs s s.heap) (hbl : bs < s.heap.size) (hbA : ¬ (fun q : Nat => s.heap.size ≤ q) bs) (k : Nat) (hk512 : k < 512) (hi1 : vp_in (nI (4 * k + 1)) L) (hi2 : vp_in (nI (4 * k + 2)) L) (hi3 : vp_in (nI (4 * k + 3)) L) {cells slots : Nat} (hc : cells ≤ room_1.cells) (hc2 : slots ≤ room_1.slots) (w sl o a : Nat) (hs hst_ : Nat) (ta ca : Nat → Nat) (pd sg nm mo : Nat) (b : Nat → Nat) (x0 x1 : Option (Nat × Nat × TT)) (t : TT) (hh : HH) (pp : PP) (mm : MM) (hJ : J k t hh pp (twn x0) (twn x1) mm)
    (kk : ∀ (t : TT) (hh : HH) (pp : PP) (x0 x1 : Option (Nat × Nat × TT)) (mm : MM), J (k + 1) t hh pp (twn x0) (twn x1) mm → ∀ (H : Heap) (locs : List Loc) (ls : Array Slot), va_P D vwCl (((wX w o hs pd sl) ++ (wT cI o a t) ++ (wH cI cT hs hst_ ta ca hh) ++ (wPd cI pd sg nm pp)) ++ (wSl cI cT sl x0 x1) ++ (wM cI cZ mo b mm)) H → va_D (fun q : Nat => s.heap.size ≤ q) (((wX w o hs pd sl) ++ (wT cI o a t) ++ (wH cI cT hs hst_ ta ca hh) ++ (wPd cI pd sg nm pp)) ++ (wSl cI cT sl x0 x1) ++ (wM cI cZ mo b mm)) → va_S (fun q : Nat => s.heap.size ≤ q) s.heap H locs → lv_has ls 4 [(0, .ref bs), (1, .ref w), (2, .ref mo), (3, .int (nI (4 * k)))] → W p l e room_1 s m args below meth c H locs cells slots Q (F0 m 904 ls []))
    (H : Heap) (locs : List Loc) (ls : Array Slot) (hP : va_P D vwCl (((wX w o hs pd sl) ++ (wT cI o a t) ++ (wH cI cT hs hst_ ta ca hh) ++ (wPd cI pd sg nm pp)) ++ (wSl cI cT sl x0 x1) ++ (wM cI cZ mo b mm)) H) (hD : va_D (fun q : Nat => s.heap.size ≤ q) (((wX w o hs pd sl) ++ (wT cI o a t) ++ (wH cI cT hs hst_ ta ca hh) ++ (wPd cI pd sg nm pp)) ++ (wSl cI cT sl x0 x1) ++ (wM cI cZ mo b mm))) (hS : va_S (fun q : Nat => s.heap.size ≤ q) s.heap H locs) (hl : lv_has ls 4 [(0, .ref bs), (1, .ref w), (2, .ref mo), (3, .int (nI (4 * k)))]) : W p l e room_1 s m args below meth c H locs cells slots Q (F0 m 427 ls []) := by
  obtain ⟨hx, hb, hr0, hml, hown, hts, hlocks⟩ := id C0
  have hF : CallFix p m c code 4 s args BW RL := ⟨hx, hb, hml, hown, hts⟩
  obtain ⟨y1, ey1⟩ : ∃ y, y = xs (nI (4 * k + 1)).toNatClampNeg := ⟨_, rfl⟩
  obtain ⟨y2, ey2⟩ : ∃ y, y = xs (nI (4 * k + 2)).toNatClampNeg := ⟨_, rfl⟩
  obtain ⟨y3, ey3⟩ : ∃ y, y = xs (nI (4 * k + 3)).toNatClampNeg := ⟨_, rfl⟩
  obtain ⟨r, hr, hz, hJ1⟩ := hst k t hh pp (twn x0) (twn x1) mm y1 y2 hk512 hJ
  refine lv_aload_n hx hb dL_law_427 rfl (lv_at hl 1 rfl) ?_
  refine lv_aload_n hx hb dL_law_428 rfl (lv_at hl 0 rfl) ?_
  refine lv_iload_n hx hb dL_law_429 rfl (lv_at hl 3 rfl) ?_
  refine lv_iconst (v := 1) hx hb dL_law_430 (by decide) ?_
  refine lv_iadd hx hb dL_law_431 ?_
  rw [show nI (4 * k) + 1 = nI (4 * k + 1) from nI_add _ _]
  refine va_sld hx hb hX hbl hbA hS hi1 dL_law_432 ?_
  rw [← ey1]
  refine lv_aload_n hx hb dL_law_433 rfl (lv_at hl 0 rfl) ?_
  refine lv_iload_n hx hb dL_law_434 rfl (lv_at hl 3 rfl) ?_
  refine lv_iconst (v := 2) hx hb dL_law_435 (by decide) ?_
  refine lv_iadd hx hb dL_law_436 ?_
  rw [show nI (4 * k) + 2 = nI (4 * k + 2) from nI_add _ _]
  refine va_sld hx hb hX hbl hbA hS hi2 dL_law_437 ?_
  rw [← ey2]
  refine x_RV (As := [.int y1, .int y2]) (rest := []) (wc := (wX w o hs pd sl) ++ (wT cI o a t) ++ (wH cI cT hs hst_ ta ca hh) ++ (wPd cI pd sg nm pp)) hF (c_X3_of l D cI cZ cT G (fun q : Nat => s.heap.size ≤ q) w sl o a t hs hst_ ta ca hh pd sg nm pp y1 y2 r hr) (cwV 2 hts (gqV mw_685 mw_686 mw_687 mw_51 mw_359) rfl rfl rfl hd_X3_of ⟨Nat.le_of_ble_eq_true rfl, Nat.le_of_ble_eq_true rfl⟩) hK hP.left.left q_E_bl (q_E_go hE hS (fun _ h9 => h9)) (List.range 22) rfl rfl rfl rfl hl.1 rfl (Nat.le_of_ble_eq_true rfl) dL_law_438 ⟨hc, hc2⟩ ?_
  refine lv_aload_n hx hb dL_law_441 rfl (lv_at hl 2 rfl) ?_
  refine lv_aload_n hx hb dL_law_442 rfl (lv_at hl 0 rfl) ?_
  refine lv_iload_n hx hb dL_law_443 rfl (lv_at hl 3 rfl) ?_
  refine lv_iconst (v := 1) hx hb dL_law_444 (by decide) ?_
  refine lv_iadd hx hb dL_law_445 ?_
  rw [show nI (4 * k) + 1 = nI (4 * k + 1) from nI_add _ _]
  refine va_sld hx hb hX hbl hbA hS hi1 dL_law_446 ?_
  rw [← ey1]
  refine lv_aload_n hx hb dL_law_447 rfl (lv_at hl 0 rfl) ?_
  refine lv_iload_n hx hb dL_law_448 rfl (lv_at hl 3 rfl) ?_
  refine lv_iconst (v := 2) hx hb dL_law_449 (by decide) ?_
  refine lv_iadd hx hb dL_law_450 ?_
  rw [show nI (4 * k) + 2 = nI (4 * k + 2) from nI_add _ _]
  refine va_sld hx hb hX hbl hbA hS hi2 dL_law_451 ?_
  rw [← ey2]
  refine x_RV (As := [.int y1, .int y2]) (rest := [.int r]) (wc := wS cI mo (wMf b mm) (b 0) mm.1) hF (c_X4_of l D cI cZ cT mo (wMf b mm) (b 0) rfl mm.1 y1 y2 r hz) (cwV 2 hts (gqV mw_688 mw_689 mw_690 mw_428 mw_566) rfl rfl rfl hd_X4_of ⟨Nat.le_of_ble_eq_true rfl, Nat.le_of_ble_eq_true rfl⟩) hK hP.right q_T_bl (fun _ _ _ => trivial) ([0, 1]) rfl rfl rfl rfl hl.1 rfl (Nat.le_of_ble_eq_true rfl) dL_law_452 ⟨hc, hc2⟩ ?_
  refine lv_icmp_eq (tgt := 904) hx hb dL_law_455 (by decide) (fun c9 => ?_) (fun c9 => ?_)
  · exact kk _ _ _ _ _ _ hJ1 H locs ls hP hD hS hl
  · exact absurd rfl c9
set_option maxHeartbeats 8000000 in
set_option maxRecDepth 100000 in
theorem lc_quarrel {G : q_G} {bs L : Nat} {xs : Nat → Int32} (J : JT) (hst : St_quarrel J) {Q : State → Prop} (C0 : q_At p s m args meth c code 4 ret RL) (hK : va_K D vwCl (q_tys cI cZ cT) s) (hA : ∀ q, s.heap.size ≤ q → (fun q : Nat => s.heap.size ≤ q) q) (hE : q_E G (fun q : Nat => s.heap.size ≤ q) s) (hX : va_X bs L xs s s.heap) (hbl : bs < s.heap.size) (hbA : ¬ (fun q : Nat => s.heap.size ≤ q) bs) (k : Nat) (hk512 : k < 512) (hi1 : vp_in (nI (4 * k + 1)) L) (hi2 : vp_in (nI (4 * k + 2)) L) (hi3 : vp_in (nI (4 * k + 3)) L) {cells slots : Nat} (hc : cells ≤ room_1.cells) (hc2 : slots ≤ room_1.slots) (w sl o a : Nat) (hs hst_ : Nat) (ta ca : Nat → Nat) (pd sg nm mo : Nat) (b : Nat → Nat) (x0 x1 : Option (Nat × Nat × TT)) (t : TT) (hh : HH) (pp : PP) (mm : MM) (hJ : J k t hh pp (twn x0) (twn x1) mm)
    (kk : ∀ (t : TT) (hh : HH) (pp : PP) (x0 x1 : Option (Nat × Nat × TT)) (mm : MM), J (k + 1) t hh pp (twn x0) (twn x1) mm → ∀ (H : Heap) (locs : List Loc) (ls : Array Slot), va_P D vwCl (((wX w o hs pd sl) ++ (wT cI o a t) ++ (wH cI cT hs hst_ ta ca hh) ++ (wPd cI pd sg nm pp)) ++ (wSl cI cT sl x0 x1) ++ (wM cI cZ mo b mm)) H → va_D (fun q : Nat => s.heap.size ≤ q) (((wX w o hs pd sl) ++ (wT cI o a t) ++ (wH cI cT hs hst_ ta ca hh) ++ (wPd cI pd sg nm pp)) ++ (wSl cI cT sl x0 x1) ++ (wM cI cZ mo b mm)) → va_S (fun q : Nat => s.heap.size ≤ q) s.heap H locs → lv_has ls 4 [(0, .ref bs), (1, .ref w), (2, .ref mo), (3, .int (nI (4 * k)))] → W p l e room_1 s m args below meth c H locs cells slots Q (F0 m 904 ls []))
    (H : Heap) (locs : List Loc) (ls : Array Slot) (hP : va_P D vwCl (((wX w o hs pd sl) ++ (wT cI o a t) ++ (wH cI cT hs hst_ ta ca hh) ++ (wPd cI pd sg nm pp)) ++ (wSl cI cT sl x0 x1) ++ (wM cI cZ mo b mm)) H) (hD : va_D (fun q : Nat => s.heap.size ≤ q) (((wX w o hs pd sl) ++ (wT cI o a t) ++ (wH cI cT hs hst_ ta ca hh) ++ (wPd cI pd sg nm pp)) ++ (wSl cI cT sl x0 x1) ++ (wM cI cZ mo b mm))) (hS : va_S (fun q : Nat => s.heap.size ≤ q) s.heap H locs) (hl : lv_has ls 4 [(0, .ref bs), (1, .ref w), (2, .ref mo), (3, .int (nI (4 * k)))]) : W p l e room_1 s m args below meth c H locs cells slots Q (F0 m 460 ls []) := by
  obtain ⟨hx, hb, hr0, hml, hown, hts, hlocks⟩ := id C0
  have hF : CallFix p m c code 4 s args BW RL := ⟨hx, hb, hml, hown, hts⟩
  obtain ⟨y1, ey1⟩ : ∃ y, y = xs (nI (4 * k + 1)).toNatClampNeg := ⟨_, rfl⟩
  obtain ⟨y2, ey2⟩ : ∃ y, y = xs (nI (4 * k + 2)).toNatClampNeg := ⟨_, rfl⟩
  obtain ⟨y3, ey3⟩ : ∃ y, y = xs (nI (4 * k + 3)).toNatClampNeg := ⟨_, rfl⟩
  obtain ⟨r, hr, hz, hJ1⟩ := hst k t hh pp (twn x0) (twn x1) mm y1 y2 hk512 hJ
  refine lv_aload_n hx hb dL_law_460 rfl (lv_at hl 1 rfl) ?_
  refine lv_aload_n hx hb dL_law_461 rfl (lv_at hl 0 rfl) ?_
  refine lv_iload_n hx hb dL_law_462 rfl (lv_at hl 3 rfl) ?_
  refine lv_iconst (v := 1) hx hb dL_law_463 (by decide) ?_
  refine lv_iadd hx hb dL_law_464 ?_
  rw [show nI (4 * k) + 1 = nI (4 * k + 1) from nI_add _ _]
  refine va_sld hx hb hX hbl hbA hS hi1 dL_law_465 ?_
  rw [← ey1]
  refine lv_aload_n hx hb dL_law_466 rfl (lv_at hl 0 rfl) ?_
  refine lv_iload_n hx hb dL_law_467 rfl (lv_at hl 3 rfl) ?_
  refine lv_iconst (v := 2) hx hb dL_law_468 (by decide) ?_
  refine lv_iadd hx hb dL_law_469 ?_
  rw [show nI (4 * k) + 2 = nI (4 * k + 2) from nI_add _ _]
  refine va_sld hx hb hX hbl hbA hS hi2 dL_law_470 ?_
  rw [← ey2]
  refine x_RV (As := [.int y1, .int y2]) (rest := []) (wc := (wX w o hs pd sl) ++ (wT cI o a t) ++ (wH cI cT hs hst_ ta ca hh) ++ (wPd cI pd sg nm pp)) hF (c_X3_quarrel l D cI cZ cT G (fun q : Nat => s.heap.size ≤ q) w sl o a t hs hst_ ta ca hh pd sg nm pp y1 y2 r hr) (cwV 2 hts (gqV mw_691 mw_692 mw_693 mw_51 mw_362) rfl rfl rfl hd_X3_quarrel ⟨Nat.le_of_ble_eq_true rfl, Nat.le_of_ble_eq_true rfl⟩) hK hP.left.left q_E_bl (q_E_go hE hS (fun _ h9 => h9)) (List.range 22) rfl rfl rfl rfl hl.1 rfl (Nat.le_of_ble_eq_true rfl) dL_law_471 ⟨hc, hc2⟩ ?_
  refine lv_aload_n hx hb dL_law_474 rfl (lv_at hl 2 rfl) ?_
  refine lv_aload_n hx hb dL_law_475 rfl (lv_at hl 0 rfl) ?_
  refine lv_iload_n hx hb dL_law_476 rfl (lv_at hl 3 rfl) ?_
  refine lv_iconst (v := 1) hx hb dL_law_477 (by decide) ?_
  refine lv_iadd hx hb dL_law_478 ?_
  rw [show nI (4 * k) + 1 = nI (4 * k + 1) from nI_add _ _]
  refine va_sld hx hb hX hbl hbA hS hi1 dL_law_479 ?_
  rw [← ey1]
  refine lv_aload_n hx hb dL_law_480 rfl (lv_at hl 0 rfl) ?_
  refine lv_iload_n hx hb dL_law_481 rfl (lv_at hl 3 rfl) ?_
  refine lv_iconst (v := 2) hx hb dL_law_482 (by decide) ?_
  refine lv_iadd hx hb dL_law_483 ?_
  rw [show nI (4 * k) + 2 = nI (4 * k + 2) from nI_add _ _]
  refine va_sld hx hb hX hbl hbA hS hi2 dL_law_484 ?_
  rw [← ey2]
  refine x_RV (As := [.int y1, .int y2]) (rest := [.int r]) (wc := wS cI mo (wMf b mm) (b 0) mm.1) hF (c_X4_quarrel l D cI cZ cT mo (wMf b mm) (b 0) rfl mm.1 y1 y2 r hz) (cwV 2 hts (gqV mw_694 mw_695 mw_696 mw_428 mw_567) rfl rfl rfl hd_X4_quarrel ⟨Nat.le_of_ble_eq_true rfl, Nat.le_of_ble_eq_true rfl⟩) hK hP.right q_T_bl (fun _ _ _ => trivial) ([0, 1]) rfl rfl rfl rfl hl.1 rfl (Nat.le_of_ble_eq_true rfl) dL_law_485 ⟨hc, hc2⟩ ?_
  refine lv_icmp_eq (tgt := 904) hx hb dL_law_488 (by decide) (fun c9 => ?_) (fun c9 => ?_)
  · exact kk _ _ _ _ _ _ hJ1 H locs ls hP hD hS hl
  · exact absurd rfl c9
set_option maxHeartbeats 8000000 in
set_option maxRecDepth 100000 in
theorem lc_record {G : q_G} {bs L : Nat} {xs : Nat → Int32} (J : JT) (hst : St_record J) {Q : State → Prop} (C0 : q_At p s m args meth c code 4 ret RL) (hK : va_K D vwCl (q_tys cI cZ cT) s) (hA : ∀ q, s.heap.size ≤ q → (fun q : Nat => s.heap.size ≤ q) q) (hE : q_E G (fun q : Nat => s.heap.size ≤ q) s) (hX : va_X bs L xs s s.heap) (hbl : bs < s.heap.size) (hbA : ¬ (fun q : Nat => s.heap.size ≤ q) bs) (k : Nat) (hk512 : k < 512) (hi1 : vp_in (nI (4 * k + 1)) L) (hi2 : vp_in (nI (4 * k + 2)) L) (hi3 : vp_in (nI (4 * k + 3)) L) {cells slots : Nat} (hc : cells ≤ room_1.cells) (hc2 : slots ≤ room_1.slots) (w sl o a : Nat) (hs hst_ : Nat) (ta ca : Nat → Nat) (pd sg nm mo : Nat) (b : Nat → Nat) (x0 x1 : Option (Nat × Nat × TT)) (t : TT) (hh : HH) (pp : PP) (mm : MM) (hJ : J k t hh pp (twn x0) (twn x1) mm)
    (kk : ∀ (t : TT) (hh : HH) (pp : PP) (x0 x1 : Option (Nat × Nat × TT)) (mm : MM), J (k + 1) t hh pp (twn x0) (twn x1) mm → ∀ (H : Heap) (locs : List Loc) (ls : Array Slot), va_P D vwCl (((wX w o hs pd sl) ++ (wT cI o a t) ++ (wH cI cT hs hst_ ta ca hh) ++ (wPd cI pd sg nm pp)) ++ (wSl cI cT sl x0 x1) ++ (wM cI cZ mo b mm)) H → va_D (fun q : Nat => s.heap.size ≤ q) (((wX w o hs pd sl) ++ (wT cI o a t) ++ (wH cI cT hs hst_ ta ca hh) ++ (wPd cI pd sg nm pp)) ++ (wSl cI cT sl x0 x1) ++ (wM cI cZ mo b mm)) → va_S (fun q : Nat => s.heap.size ≤ q) s.heap H locs → lv_has ls 4 [(0, .ref bs), (1, .ref w), (2, .ref mo), (3, .int (nI (4 * k)))] → W p l e room_1 s m args below meth c H locs cells slots Q (F0 m 904 ls []))
    (H : Heap) (locs : List Loc) (ls : Array Slot) (hP : va_P D vwCl (((wX w o hs pd sl) ++ (wT cI o a t) ++ (wH cI cT hs hst_ ta ca hh) ++ (wPd cI pd sg nm pp)) ++ (wSl cI cT sl x0 x1) ++ (wM cI cZ mo b mm)) H) (hD : va_D (fun q : Nat => s.heap.size ≤ q) (((wX w o hs pd sl) ++ (wT cI o a t) ++ (wH cI cT hs hst_ ta ca hh) ++ (wPd cI pd sg nm pp)) ++ (wSl cI cT sl x0 x1) ++ (wM cI cZ mo b mm))) (hS : va_S (fun q : Nat => s.heap.size ≤ q) s.heap H locs) (hl : lv_has ls 4 [(0, .ref bs), (1, .ref w), (2, .ref mo), (3, .int (nI (4 * k)))]) : W p l e room_1 s m args below meth c H locs cells slots Q (F0 m 493 ls []) := by
  obtain ⟨hx, hb, hr0, hml, hown, hts, hlocks⟩ := id C0
  have hF : CallFix p m c code 4 s args BW RL := ⟨hx, hb, hml, hown, hts⟩
  obtain ⟨y1, ey1⟩ : ∃ y, y = xs (nI (4 * k + 1)).toNatClampNeg := ⟨_, rfl⟩
  obtain ⟨y2, ey2⟩ : ∃ y, y = xs (nI (4 * k + 2)).toNatClampNeg := ⟨_, rfl⟩
  obtain ⟨y3, ey3⟩ : ∃ y, y = xs (nI (4 * k + 3)).toNatClampNeg := ⟨_, rfl⟩
  obtain ⟨r, hr, hz, hJ1⟩ := hst k t hh pp (twn x0) (twn x1) mm y1 y2 hk512 hJ
  refine lv_aload_n hx hb dL_law_493 rfl (lv_at hl 1 rfl) ?_
  refine lv_aload_n hx hb dL_law_494 rfl (lv_at hl 0 rfl) ?_
  refine lv_iload_n hx hb dL_law_495 rfl (lv_at hl 3 rfl) ?_
  refine lv_iconst (v := 1) hx hb dL_law_496 (by decide) ?_
  refine lv_iadd hx hb dL_law_497 ?_
  rw [show nI (4 * k) + 1 = nI (4 * k + 1) from nI_add _ _]
  refine va_sld hx hb hX hbl hbA hS hi1 dL_law_498 ?_
  rw [← ey1]
  refine lv_aload_n hx hb dL_law_499 rfl (lv_at hl 0 rfl) ?_
  refine lv_iload_n hx hb dL_law_500 rfl (lv_at hl 3 rfl) ?_
  refine lv_iconst (v := 2) hx hb dL_law_501 (by decide) ?_
  refine lv_iadd hx hb dL_law_502 ?_
  rw [show nI (4 * k) + 2 = nI (4 * k + 2) from nI_add _ _]
  refine va_sld hx hb hX hbl hbA hS hi2 dL_law_503 ?_
  rw [← ey2]
  refine x_RV (As := [.int y1, .int y2]) (rest := []) (wc := (wX w o hs pd sl) ++ (wT cI o a t) ++ (wH cI cT hs hst_ ta ca hh) ++ (wPd cI pd sg nm pp)) hF (c_X3_record l D cI cZ cT G (fun q : Nat => s.heap.size ≤ q) w sl o a t hs hst_ ta ca hh pd sg nm pp y1 y2 r hr) (cwV 2 hts (gqV mw_697 mw_698 mw_699 mw_51 mw_363) rfl rfl rfl hd_X3_record ⟨Nat.le_of_ble_eq_true rfl, Nat.le_of_ble_eq_true rfl⟩) hK hP.left.left q_E_bl (q_E_go hE hS (fun _ h9 => h9)) (List.range 22) rfl rfl rfl rfl hl.1 rfl (Nat.le_of_ble_eq_true rfl) dL_law_504 ⟨hc, hc2⟩ ?_
  refine lv_aload_n hx hb dL_law_507 rfl (lv_at hl 2 rfl) ?_
  refine lv_aload_n hx hb dL_law_508 rfl (lv_at hl 0 rfl) ?_
  refine lv_iload_n hx hb dL_law_509 rfl (lv_at hl 3 rfl) ?_
  refine lv_iconst (v := 1) hx hb dL_law_510 (by decide) ?_
  refine lv_iadd hx hb dL_law_511 ?_
  rw [show nI (4 * k) + 1 = nI (4 * k + 1) from nI_add _ _]
  refine va_sld hx hb hX hbl hbA hS hi1 dL_law_512 ?_
  rw [← ey1]
  refine lv_aload_n hx hb dL_law_513 rfl (lv_at hl 0 rfl) ?_
  refine lv_iload_n hx hb dL_law_514 rfl (lv_at hl 3 rfl) ?_
  refine lv_iconst (v := 2) hx hb dL_law_515 (by decide) ?_
  refine lv_iadd hx hb dL_law_516 ?_
  rw [show nI (4 * k) + 2 = nI (4 * k + 2) from nI_add _ _]
  refine va_sld hx hb hX hbl hbA hS hi2 dL_law_517 ?_
  rw [← ey2]
  refine x_RV (As := [.int y1, .int y2]) (rest := [.int r]) (wc := wS cI mo (wMf b mm) (b 0) mm.1) hF (c_X4_record l D cI cZ cT mo (wMf b mm) (b 0) rfl mm.1 y1 y2 r hz) (cwV 2 hts (gqV mw_700 mw_701 mw_702 mw_428 mw_568) rfl rfl rfl hd_X4_record ⟨Nat.le_of_ble_eq_true rfl, Nat.le_of_ble_eq_true rfl⟩) hK hP.right q_T_bl (fun _ _ _ => trivial) ([0, 1]) rfl rfl rfl rfl hl.1 rfl (Nat.le_of_ble_eq_true rfl) dL_law_518 ⟨hc, hc2⟩ ?_
  refine lv_icmp_eq (tgt := 904) hx hb dL_law_521 (by decide) (fun c9 => ?_) (fun c9 => ?_)
  · exact kk _ _ _ _ _ _ hJ1 H locs ls hP hD hS hl
  · exact absurd rfl c9
end G_LWc

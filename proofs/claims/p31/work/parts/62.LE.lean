/-! one event on the machine -/
section G_LE
variable {p : Program} {l : Launch} {e : Env} {s : State} {m : MethodId} {args : Array Value} {below : List Frame} {meth : Method} {c : Code} {D : va_G} {cI cZ cT : ClassId}
set_option maxHeartbeats 8000000 in
set_option maxRecDepth 100000 in
theorem law_event {G : q_G} {bs L : Nat} {xs : Nat → Int32} (C0 : q_At p s m args meth c code 5 ret RL) (hK : va_K D vwCl (q_tys cI cZ cT) s) (hA : ∀ q, s.heap.size ≤ q → (fun q : Nat => s.heap.size ≤ q) q) (hE : q_E G (fun q : Nat => s.heap.size ≤ q) s) (hX : va_X bs L xs s s.heap) (hbl : bs < s.heap.size) (hbA : ¬ (fun q : Nat => s.heap.size ≤ q) bs) (w sl o a : Nat) (hs hst_ : Nat) (ta ca : Nat → Nat) (pd sg nm : Nat) (pp : PP) (hL : L ≤ 260) {t : TT} {hh : HH} {j : Nat} (hj : j < 50) (hg : GO j (60 * j) t) (hH : HS hh) {Q : State → Prop} (kk : ∀ (t : TT) (hh : HH), GO (j + 1) (60 * (j + 1)) t → HS hh → ∀ (H : Heap) (locs : List Loc) (ls : Array Slot), va_P D vwCl ((wX w o hs pd sl) ++ (wT cI o a t) ++ (wH cI cT hs hst_ ta ca hh) ++ (wPd cI pd sg nm pp)) H → va_D (fun q : Nat => s.heap.size ≤ q) ((wX w o hs pd sl) ++ (wT cI o a t) ++ (wH cI cT hs hst_ ta ca hh) ++ (wPd cI pd sg nm pp)) → va_S (fun q : Nat => s.heap.size ≤ q) s.heap H locs → lv_has ls 5 [(0, .ref bs), (1, .ref w), (2, .int (nI (4 + j)))] → W p l e room_1 s m args below meth c H locs 23 1561 Q (F0 m 162 ls [])) (H : Heap) (locs : List Loc) (ls : Array Slot) (hP : va_P D vwCl ((wX w o hs pd sl) ++ (wT cI o a t) ++ (wH cI cT hs hst_ ta ca hh) ++ (wPd cI pd sg nm pp)) H) (hD : va_D (fun q : Nat => s.heap.size ≤ q) ((wX w o hs pd sl) ++ (wT cI o a t) ++ (wH cI cT hs hst_ ta ca hh) ++ (wPd cI pd sg nm pp))) (hS : va_S (fun q : Nat => s.heap.size ≤ q) s.heap H locs) (hl : lv_has ls 5 [(0, .ref bs), (1, .ref w), (2, .int (nI (4 + j)))]) : W p l e room_1 s m args below meth c H locs 23 1561 Q (F0 m 63 ls []) := by
  obtain ⟨hx, hb, hr0, hml, hown, hts, hlocks⟩ := id C0
  have hF : CallFix p m c code 5 s args BW RL := ⟨hx, hb, hml, hown, hts⟩
  obtain ⟨v, ev⟩ : ∃ v, v = cellv L xs (4 + j) := ⟨_, rfl⟩
  obtain ⟨x4, r, y5, y7, cq, t1, t2, h1, h2, f4, fd1, r0, fa, fp, f5, f7, fi, fc, g2, k2, ftime⟩ := event_e (t := t) (hh := hh) (e := j) (by omega) hg hH pp v
  refine lv_aload_n hx hb dL_law_63 rfl (lv_at hl 0 rfl) ?_
  refine lv_iload_n hx hb dL_law_64 rfl (lv_at hl 2 rfl) ?_
  refine x_RS (As := [.ref bs, .int (nI (4 + j))]) (rest := []) hF (c_L_cell l D cI cZ cT bs L xs hL (4 + j) (by omega)) (va_cwS 2 hts (gqS mw_390 mw_391 mw_309 mw_300) rfl rfl rfl hd_L_cell.2 ⟨Nat.le_of_ble_eq_true rfl, Nat.le_of_ble_eq_true rfl⟩) hK hP q_X_bl (q_X_go hX hbl hS hbA) [] rfl rfl hl.1 rfl (Nat.le_of_ble_eq_true rfl) dL_law_65 ⟨Nat.le_of_ble_eq_true rfl, Nat.le_of_ble_eq_true rfl⟩ ?_
  rw [← ev]
  refine lv_istore_n (lv' := [(3, .int v), (0, .ref bs), (1, .ref w), (2, .int (nI (4 + j)))]) hx hb dL_law_68 rfl hl (by decide) rfl (fun ls hl => ?_)
  refine lv_iload_n hx hb dL_law_69 rfl (lv_at hl 0 rfl) ?_
  refine lv_iconst (v := 3) hx hb dL_law_70 (by decide) ?_
  refine lv_ishr hx hb dL_law_71 ?_
  refine lv_iconst (v := 4) hx hb dL_law_72 (by decide) ?_
  refine x_RS (As := [.int (v >>> ((3 : Int32) &&& 31)), .int (4 : Int32)]) (rest := []) hF (c_L_low l D cI cZ cT (v >>> ((3 : Int32) &&& 31)) (4 : Int32) x4 f4) (va_cwS 2 hts (gqS mw_307 mw_308 mw_309 mw_301) rfl rfl rfl hd_L_low.2 ⟨Nat.le_of_ble_eq_true rfl, Nat.le_of_ble_eq_true rfl⟩) hK hP q_T_bl (fun _ _ _ => trivial) [] rfl rfl hl.1 rfl (Nat.le_of_ble_eq_true rfl) dL_law_73 ⟨Nat.le_of_ble_eq_true rfl, Nat.le_of_ble_eq_true rfl⟩ ?_
  refine lv_istore (lv' := [(4, .int x4), (3, .int v), (0, .ref bs), (1, .ref w), (2, .int (nI (4 + j)))]) hx hb dL_law_76 hl (by decide) rfl (fun ls hl => ?_)
  refine lv_aload_n hx hb dL_law_78 rfl (lv_at hl 3 rfl) ?_
  refine lv_iload_n hx hb dL_law_79 rfl (lv_at hl 1 rfl) ?_
  refine x_MSp (As := [.ref w, .int v]) (rest := []) (wr := []) (W1 := ((wX w o hs pd sl) ++ (wT cI o a t1) ++ (wH cI cT hs hst_ ta ca h1) ++ (wPd cI pd sg nm pp))) hF (c_L_does l D cI cZ cT G _ w sl o a t hs hst_ ta ca hh pd sg nm pp v (r, t1, h1) fd1) (va_cwS 2 hts (gqS mw_392 mw_393 mw_309 mw_339) rfl rfl rfl hd_L_does.2 ⟨Nat.le_of_ble_eq_true rfl, Nat.le_of_ble_eq_true rfl⟩) hK hP hD hS hA q_E_bl (q_E_go hE hS (q_freep (wr := []) (List.Perm.refl _) hD hS hA)) (List.Perm.refl _) (List.Perm.refl _) rfl hl.1 rfl (Nat.le_of_ble_eq_true rfl) dL_law_80 ⟨Nat.le_of_ble_eq_true rfl, Nat.le_of_ble_eq_true rfl⟩ (fun H locs hP hD hS => ?_)
  refine lv_if_lt (tgt := 160) hx hb dL_law_83 (by decide) (fun c9 => ?_) (fun _ => ?_)
  · exact absurd c9 r0
  refine lv_aload_n hx hb dL_law_86 rfl (lv_at hl 3 rfl) ?_
  refine x_RS (As := [.ref w]) (rest := []) hF (c_L_areQuarrelsSo l D cI cZ cT G (fun q : Nat => s.heap.size ≤ q) w sl o a t1 hs hst_ ta ca h1 pd sg nm pp 1 fa) (va_cwS 1 hts (gqS mw_394 mw_395 mw_309 mw_364) rfl rfl rfl hd_L_areQuarrelsSo.2 ⟨Nat.le_of_ble_eq_true rfl, Nat.le_of_ble_eq_true rfl⟩) hK hP q_E_bl (q_E_go hE hS (fun _ h9 => h9)) [0, 1, 2, 3, 4, 5, 6, 7, 8, 9, 10, 11, 12, 13, 14, 15, 16, 17, 18, 19, 20, 21] rfl rfl hl.1 rfl (Nat.le_of_ble_eq_true rfl) dL_law_87 ⟨Nat.le_of_ble_eq_true rfl, Nat.le_of_ble_eq_true rfl⟩ ?_
  refine lv_if_eq (tgt := 160) hx hb dL_law_90 (by decide) (fun c9 => ?_) (fun _ => ?_)
  · exact absurd c9 (by decide)
  refine lv_aload_n hx hb dL_law_93 rfl (lv_at hl 3 rfl) ?_
  refine x_RS (As := [.ref w]) (rest := []) hF (c_L_arePersonsSo l D cI cZ cT G (fun q : Nat => s.heap.size ≤ q) w sl o a t1 hs hst_ ta ca h1 pd sg nm pp 1 fp) (va_cwS 1 hts (gqS mw_396 mw_397 mw_309 mw_371) rfl rfl rfl hd_L_arePersonsSo.2 ⟨Nat.le_of_ble_eq_true rfl, Nat.le_of_ble_eq_true rfl⟩) hK hP q_E_bl (q_E_go hE hS (fun _ h9 => h9)) [0, 1, 2, 3, 4, 5, 6, 7, 8, 9, 10, 11, 12, 13, 14, 15, 16, 17, 18, 19, 20, 21] rfl rfl hl.1 rfl (Nat.le_of_ble_eq_true rfl) dL_law_94 ⟨Nat.le_of_ble_eq_true rfl, Nat.le_of_ble_eq_true rfl⟩ ?_
  refine lv_if_eq (tgt := 160) hx hb dL_law_97 (by decide) (fun c9 => ?_) (fun _ => ?_)
  · exact absurd c9 (by decide)
  refine lv_aload_n hx hb dL_law_100 rfl (lv_at hl 3 rfl) ?_
  refine lv_iload hx hb dL_law_101 (lv_at hl 0 rfl) ?_
  refine lv_iload hx hb dL_law_103 (lv_at hl 0 rfl) ?_
  refine lv_iconst (v := 1) hx hb dL_law_105 (by decide) ?_
  refine lv_iadd hx hb dL_law_106 ?_
  refine lv_iload_n hx hb dL_law_107 rfl (lv_at hl 1 rfl) ?_
  refine lv_iconst (v := 5) hx hb dL_law_108 (by decide) ?_
  refine lv_ishr hx hb dL_law_109 ?_
  refine lv_iconst (v := 3) hx hb dL_law_110 (by decide) ?_
  refine x_RS (As := [.int (v >>> ((5 : Int32) &&& 31)), .int (3 : Int32)]) (rest := [.int (x4 + 1), .int x4, .ref w]) hF (c_L_low l D cI cZ cT (v >>> ((5 : Int32) &&& 31)) (3 : Int32) y5 f5) (va_cwS 2 hts (gqS mw_307 mw_308 mw_309 mw_301) rfl rfl rfl hd_L_low.2 ⟨Nat.le_of_ble_eq_true rfl, Nat.le_of_ble_eq_true rfl⟩) hK hP q_T_bl (fun _ _ _ => trivial) [] rfl rfl hl.1 rfl (Nat.le_of_ble_eq_true rfl) dL_law_111 ⟨Nat.le_of_ble_eq_true rfl, Nat.le_of_ble_eq_true rfl⟩ ?_
  refine lv_iadd hx hb dL_law_114 ?_
  refine lv_iconst (v := 4) hx hb dL_law_115 (by decide) ?_
  refine lv_irem hx hb dL_law_116 (by decide) ?_
  refine lv_iconst (v := 1) hx hb dL_law_117 (by decide) ?_
  refine lv_iload_n hx hb dL_law_118 rfl (lv_at hl 1 rfl) ?_
  refine lv_bipush (v := 7) hx hb dL_law_119 (by decide) ?_
  refine lv_ishr hx hb dL_law_121 ?_
  refine lv_bipush (v := 9) hx hb dL_law_122 (by decide) ?_
  refine x_RS (As := [.int (v >>> ((7 : Int32) &&& 31)), .int (9 : Int32)]) (rest := [.int (1 : Int32), .int (((x4 + 1) + y5) - ((x4 + 1) + y5) / 4 * 4), .int x4, .ref w]) hF (c_L_low l D cI cZ cT (v >>> ((7 : Int32) &&& 31)) (9 : Int32) y7 f7) (va_cwS 2 hts (gqS mw_307 mw_308 mw_309 mw_301) rfl rfl rfl hd_L_low.2 ⟨Nat.le_of_ble_eq_true rfl, Nat.le_of_ble_eq_true rfl⟩) hK hP q_T_bl (fun _ _ _ => trivial) [] rfl rfl hl.1 rfl (Nat.le_of_ble_eq_true rfl) dL_law_124 ⟨Nat.le_of_ble_eq_true rfl, Nat.le_of_ble_eq_true rfl⟩ ?_
  refine lv_iadd hx hb dL_law_127 ?_
  refine x_MSp (As := [.ref w, .int x4, .int (((x4 + 1) + y5) - ((x4 + 1) + y5) / 4 * 4), .int (1 + y7)]) (rest := []) (wr := []) (W1 := ((wX w o hs pd sl) ++ (wT cI o a t2) ++ (wH cI cT hs hst_ ta ca h2) ++ (wPd cI pd sg nm pp))) hF (c_L_isInsultSo l D cI cZ cT G _ w sl o a t1 hs hst_ ta ca h1 pd sg nm pp x4 (((x4 + 1) + y5) - ((x4 + 1) + y5) / 4 * 4) (1 + y7) ((1 : Int32), t2, h2) fi) (va_cwS 4 hts (gqS mw_398 mw_399 mw_309 mw_385) rfl rfl rfl hd_L_isInsultSo.2 ⟨Nat.le_of_ble_eq_true rfl, Nat.le_of_ble_eq_true rfl⟩) hK hP hD hS hA q_E_bl (q_E_go hE hS (q_freep (wr := []) (List.Perm.refl _) hD hS hA)) (List.Perm.refl _) (List.Perm.refl _) rfl hl.1 rfl (Nat.le_of_ble_eq_true rfl) dL_law_128 ⟨Nat.le_of_ble_eq_true rfl, Nat.le_of_ble_eq_true rfl⟩ (fun H locs hP hD hS => ?_)
  refine lv_if_eq (tgt := 160) hx hb dL_law_131 (by decide) (fun c9 => ?_) (fun _ => ?_)
  · exact absurd c9 n10
  refine lv_aload_n hx hb dL_law_134 rfl (lv_at hl 3 rfl) ?_
  refine lv_iconst (v := 2) hx hb dL_law_135 (by decide) ?_
  refine x_RV (As := [.int (2 : Int32)]) (rest := []) hF (c_X3_count l D cI cZ cT G (fun q : Nat => s.heap.size ≤ q) w sl o a t2 hs hst_ ta ca h2 pd sg nm pp (2 : Int32) cq fc) (cwV 1 hts (gqV mw_304 mw_305 mw_306 mw_51 mw_283) rfl rfl rfl hd_X3_count ⟨Nat.le_of_ble_eq_true rfl, Nat.le_of_ble_eq_true rfl⟩) hK hP q_E_bl (q_E_go hE hS (fun _ h9 => h9)) [0, 1, 2, 3, 4, 5, 6, 7, 8, 9, 10, 11, 12, 13, 14, 15, 16, 17, 18, 19, 20, 21] rfl rfl rfl rfl hl.1 rfl (Nat.le_of_ble_eq_true rfl) dL_law_136 ⟨Nat.le_of_ble_eq_true rfl, Nat.le_of_ble_eq_true rfl⟩ ?_
  refine lv_if_le (tgt := 162) hx hb dL_law_139 (by decide) (fun c9 => ?_) (fun c9 => ?_)
  · exact kk t2 h2 g2 k2 _ _ _ hP hD hS (lv_sub hl [2, 3, 4] rfl)
  obtain ⟨y4, t3, h3, f8, f9, g3, k3⟩ := ftime c9
  refine lv_aload_n hx hb dL_law_142 rfl (lv_at hl 3 rfl) ?_
  refine lv_iload_n hx hb dL_law_143 rfl (lv_at hl 1 rfl) ?_
  refine lv_iconst (v := 4) hx hb dL_law_144 (by decide) ?_
  refine lv_ishr hx hb dL_law_145 ?_
  refine lv_aload_n hx hb dL_law_146 rfl (lv_at hl 3 rfl) ?_
  refine lv_iconst (v := 2) hx hb dL_law_147 (by decide) ?_
  refine x_RV (As := [.int (2 : Int32)]) (rest := [.int (v >>> ((4 : Int32) &&& 31)), .ref w]) hF (c_X3_count l D cI cZ cT G (fun q : Nat => s.heap.size ≤ q) w sl o a t2 hs hst_ ta ca h2 pd sg nm pp (2 : Int32) cq fc) (cwV 1 hts (gqV mw_304 mw_305 mw_306 mw_51 mw_283) rfl rfl rfl hd_X3_count ⟨Nat.le_of_ble_eq_true rfl, Nat.le_of_ble_eq_true rfl⟩) hK hP q_E_bl (q_E_go hE hS (fun _ h9 => h9)) [0, 1, 2, 3, 4, 5, 6, 7, 8, 9, 10, 11, 12, 13, 14, 15, 16, 17, 18, 19, 20, 21] rfl rfl rfl rfl hl.1 rfl (Nat.le_of_ble_eq_true rfl) dL_law_148 ⟨Nat.le_of_ble_eq_true rfl, Nat.le_of_ble_eq_true rfl⟩ ?_
  refine x_RS (As := [.int (v >>> ((4 : Int32) &&& 31)), .int cq]) (rest := [.ref w]) hF (c_L_low l D cI cZ cT (v >>> ((4 : Int32) &&& 31)) cq y4 f8) (va_cwS 2 hts (gqS mw_307 mw_308 mw_309 mw_301) rfl rfl rfl hd_L_low.2 ⟨Nat.le_of_ble_eq_true rfl, Nat.le_of_ble_eq_true rfl⟩) hK hP q_T_bl (fun _ _ _ => trivial) [] rfl rfl hl.1 rfl (Nat.le_of_ble_eq_true rfl) dL_law_151 ⟨Nat.le_of_ble_eq_true rfl, Nat.le_of_ble_eq_true rfl⟩ ?_
  refine x_MSp (As := [.ref w, .int y4]) (rest := []) (wr := []) (W1 := ((wX w o hs pd sl) ++ (wT cI o a t3) ++ (wH cI cT hs hst_ ta ca h3) ++ (wPd cI pd sg nm pp))) hF (c_L_isTimeSo l D cI cZ cT G _ w sl o a t2 hs hst_ ta ca h2 pd sg nm pp y4 ((1 : Int32), t3, h3) f9) (va_cwS 2 hts (gqS mw_400 mw_401 mw_309 mw_381) rfl rfl rfl hd_L_isTimeSo.2 ⟨Nat.le_of_ble_eq_true rfl, Nat.le_of_ble_eq_true rfl⟩) hK hP hD hS hA q_E_bl (q_E_go hE hS (q_freep (wr := []) (List.Perm.refl _) hD hS hA)) (List.Perm.refl _) (List.Perm.refl _) rfl hl.1 rfl (Nat.le_of_ble_eq_true rfl) dL_law_154 ⟨Nat.le_of_ble_eq_true rfl, Nat.le_of_ble_eq_true rfl⟩ (fun H locs hP hD hS => ?_)
  refine lv_if_ne (tgt := 162) hx hb dL_law_157 (by decide) (fun _ => ?_) (fun c9 => ?_)
  · exact kk t3 h3 g3 k3 _ _ _ hP hD hS (lv_sub hl [2, 3, 4] rfl)
  · exact absurd c9 n10
end G_LE

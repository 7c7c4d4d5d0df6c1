/-! the two loops of the law -/
section G_LO
variable {p : Program} {l : Launch} {e : Env} {s : State} {m : MethodId} {args : Array Value} {below : List Frame} {meth : Method} {c : Code} {D : va_G} {cI cZ cT : ClassId}
set_option maxHeartbeats 8000000 in
set_option maxRecDepth 100000 in
theorem law_loop {G : q_G} {bs L : Nat} {xs : Nat → Int32} (C0 : q_At p s m args meth c code 5 ret RL) (hK : va_K D vwCl (q_tys cI cZ cT) s) (hA : ∀ q, s.heap.size ≤ q → (fun q : Nat => s.heap.size ≤ q) q) (hE : q_E G (fun q : Nat => s.heap.size ≤ q) s) (hX : va_X bs L xs s s.heap) (hbl : bs < s.heap.size) (hbA : ¬ (fun q : Nat => s.heap.size ≤ q) bs) (w sl o a : Nat) (hs hst_ : Nat) (ta ca : Nat → Nat) (pd sg nm : Nat) (pp : PP) (hL : L ≤ 260) (hargs : args = #[Value.ref bs]) : ∀ (d j : Nat), j + d = 50 → ∀ (t : TT) (hh : HH), GO j (60 * j) t → HS hh → ∀ (H : Heap) (locs : List Loc) (ls : Array Slot), va_P D vwCl ((wX w o hs pd sl) ++ (wT cI o a t) ++ (wH cI cT hs hst_ ta ca hh) ++ (wPd cI pd sg nm pp)) H → va_D (fun q : Nat => s.heap.size ≤ q) ((wX w o hs pd sl) ++ (wT cI o a t) ++ (wH cI cT hs hst_ ta ca hh) ++ (wPd cI pd sg nm pp)) → va_S (fun q : Nat => s.heap.size ≤ q) s.heap H locs → lv_has ls 5 [(0, .ref bs), (1, .ref w), (2, .int (nI (4 + j)))] → W p l e room_1 s m args below meth c H locs 23 1561 (lw_Z below args s) (F0 m 57 ls []) := by
  obtain ⟨hx, hb, hr0, hml, hown, hts, hlocks⟩ := id C0
  intro d
  induction d with
  | zero =>
    intro j hj t hh hg hH H locs ls hP hD hS hl
    refine lv_iload_n hx hb dL_law_57 rfl (lv_at hl 2 rfl) ?_
    refine lv_bipush (v := 54) hx hb dL_law_58 (by decide) ?_
    refine lv_icmp_ge (tgt := 168) hx hb dL_law_60 (by decide) (fun c9 => ?_) (fun c9 => ?_)
    · refine va_forget (locs := locs) (fun x hx9 => hS.2.2 x hx9) ?_
      refine W.widen (k := 600000) (n := 7302250) (Nat.le_of_ble_eq_true rfl) (Nat.le_of_ble_eq_true rfl) ?_
      refine lv_iconst (v := 1) hx hb dL_law_168 (by decide) ?_
      subst hargs
      exact lw_ret hx hb hr0 hlocks dL_law_169
    · exact absurd (by rw [show (54 : Int32) = nI 54 from rfl]; exact nI_le (by omega) (by omega)) c9
  | succ d ih =>
    intro j hj t hh hg hH H locs ls hP hD hS hl
    refine lv_iload_n hx hb dL_law_57 rfl (lv_at hl 2 rfl) ?_
    refine lv_bipush (v := 54) hx hb dL_law_58 (by decide) ?_
    refine lv_icmp_ge (tgt := 168) hx hb dL_law_60 (by decide) (fun c9 => ?_) (fun c9 => ?_)
    · exact absurd c9 (by rw [show (54 : Int32) = nI 54 from rfl]; exact nI_ge (by omega) (by omega))
    refine law_event C0 hK hA hE hX hbl hbA w sl o a hs hst_ ta ca pd sg nm pp hL (by omega) hg hH (fun t hh hg hH H locs ls hP hD hS hl => ?_) H locs ls hP hD hS hl
    refine lv_iinc (v := (nI (4 + j) + 1)) (lv' := [(2, .int (nI (4 + j) + 1)), (0, .ref bs), (1, .ref w)]) hx hb dL_law_162 hl (k := 2) rfl rfl (by decide) rfl (fun ls hl => ?_)
    refine lv_goto (tgt := 57) hx hb dL_law_165 (by decide) ?_
    have hl : lv_has ls 5 [(2, .int (nI (4 + (j + 1)))), (0, .ref bs), (1, .ref w)] := by rw [show nI (4 + (j + 1)) = nI (4 + j) + 1 from (nI_1 _).symm]; exact hl
    exact ih (j + 1) (by omega) t hh hg hH H locs ls hP hD hS (lv_sub hl [1, 2, 0] rfl)
set_option maxHeartbeats 8000000 in
set_option maxRecDepth 100000 in
theorem law_people {G : q_G} {bs L : Nat} {xs : Nat → Int32} (C0 : q_At p s m args meth c code 5 ret RL) (hK : va_K D vwCl (q_tys cI cZ cT) s) (hA : ∀ q, s.heap.size ≤ q → (fun q : Nat => s.heap.size ≤ q) q) (hE : q_E G (fun q : Nat => s.heap.size ≤ q) s) (hX : va_X bs L xs s s.heap) (hbl : bs < s.heap.size) (hbA : ¬ (fun q : Nat => s.heap.size ≤ q) bs) (w sl o a : Nat) (hs hst_ : Nat) (ta ca : Nat → Nat) (pd sg nm : Nat) (pp : PP) (hL : L ≤ 260) {Q : State → Prop} (kk : ∀ (t : TT) (hh : HH), PV 4 t → HS hh → ∀ (H : Heap) (locs : List Loc) (ls : Array Slot), va_P D vwCl ((wX w o hs pd sl) ++ (wT cI o a t) ++ (wH cI cT hs hst_ ta ca hh) ++ (wPd cI pd sg nm pp)) H → va_D (fun q : Nat => s.heap.size ≤ q) ((wX w o hs pd sl) ++ (wT cI o a t) ++ (wH cI cT hs hst_ ta ca hh) ++ (wPd cI pd sg nm pp)) → va_S (fun q : Nat => s.heap.size ≤ q) s.heap H locs → lv_has ls 5 [(0, .ref bs), (1, .ref w)] → W p l e room_1 s m args below meth c H locs 23 1561 Q (F0 m 55 ls [])) : ∀ (d k : Nat), k + d = 4 → ∀ (t : TT) (hh : HH), PV k t → HS hh → ∀ (H : Heap) (locs : List Loc) (ls : Array Slot), va_P D vwCl ((wX w o hs pd sl) ++ (wT cI o a t) ++ (wH cI cT hs hst_ ta ca hh) ++ (wPd cI pd sg nm pp)) H → va_D (fun q : Nat => s.heap.size ≤ q) ((wX w o hs pd sl) ++ (wT cI o a t) ++ (wH cI cT hs hst_ ta ca hh) ++ (wPd cI pd sg nm pp)) → va_S (fun q : Nat => s.heap.size ≤ q) s.heap H locs → lv_has ls 5 [(0, .ref bs), (1, .ref w), (2, .int (nI k))] → W p l e room_1 s m args below meth c H locs 23 1561 Q (F0 m 10 ls []) := by
  obtain ⟨hx, hb, hr0, hml, hown, hts, hlocks⟩ := id C0
  have hF : CallFix p m c code 5 s args BW RL := ⟨hx, hb, hml, hown, hts⟩
  intro d
  induction d with
  | zero =>
    intro k hk t hh hg hH H locs ls hP hD hS hl
    obtain rfl : k = 4 := by omega
    refine lv_iload_n hx hb dL_law_10 rfl (lv_at hl 2 rfl) ?_
    refine lv_iconst (v := 4) hx hb dL_law_11 (by decide) ?_
    refine lv_icmp_ge (tgt := 55) hx hb dL_law_12 (by decide) (fun c9 => ?_) (fun c9 => ?_)
    · exact kk t hh hg hH H locs ls hP hD hS (lv_sub hl [0, 1] rfl)
    · exact absurd (by decide) c9
  | succ d ih =>
    intro k hk t hh hg hH H locs ls hP hD hS hl
    obtain ⟨v, ev⟩ : ∃ v, v = cellv L xs k := ⟨_, rfl⟩
    obtain ⟨x, y, t1, h1, f1, f2, f3, g1, k1⟩ := person2_e (t := t) (hh := hh) (k := k) (by omega) hg hH pp v (v >>> ((4 : Int32) &&& 31))
    refine lv_iload_n hx hb dL_law_10 rfl (lv_at hl 2 rfl) ?_
    refine lv_iconst (v := 4) hx hb dL_law_11 (by decide) ?_
    refine lv_icmp_ge (tgt := 55) hx hb dL_law_12 (by decide) (fun c9 => ?_) (fun c9 => ?_)
    · exact absurd c9 (by rw [show (4 : Int32) = nI 4 from rfl]; exact nI_ge (by omega) (by omega))
    refine lv_aload_n hx hb dL_law_15 rfl (lv_at hl 1 rfl) ?_
    refine lv_aload_n hx hb dL_law_16 rfl (lv_at hl 0 rfl) ?_
    refine lv_iload_n hx hb dL_law_17 rfl (lv_at hl 2 rfl) ?_
    refine x_RS (As := [.ref bs, .int (nI k)]) (rest := [.ref w]) hF (c_L_cell l D cI cZ cT bs L xs hL k (by omega)) (va_cwS 2 hts (gqS mw_390 mw_391 mw_309 mw_300) rfl rfl rfl hd_L_cell.2 ⟨Nat.le_of_ble_eq_true rfl, Nat.le_of_ble_eq_true rfl⟩) hK hP q_X_bl (q_X_go hX hbl hS hbA) [] rfl rfl hl.1 rfl (Nat.le_of_ble_eq_true rfl) dL_law_18 ⟨Nat.le_of_ble_eq_true rfl, Nat.le_of_ble_eq_true rfl⟩ ?_
    rw [← ev]
    refine lv_bipush (v := 10) hx hb dL_law_21 (by decide) ?_
    refine x_RS (As := [.int v, .int (10 : Int32)]) (rest := [.ref w]) hF (c_L_low l D cI cZ cT v (10 : Int32) x f1) (va_cwS 2 hts (gqS mw_307 mw_308 mw_309 mw_301) rfl rfl rfl hd_L_low.2 ⟨Nat.le_of_ble_eq_true rfl, Nat.le_of_ble_eq_true rfl⟩) hK hP q_T_bl (fun _ _ _ => trivial) [] rfl rfl hl.1 rfl (Nat.le_of_ble_eq_true rfl) dL_law_23 ⟨Nat.le_of_ble_eq_true rfl, Nat.le_of_ble_eq_true rfl⟩ ?_
    refine lv_aload_n hx hb dL_law_26 rfl (lv_at hl 0 rfl) ?_
    refine lv_iload_n hx hb dL_law_27 rfl (lv_at hl 2 rfl) ?_
    refine x_RS (As := [.ref bs, .int (nI k)]) (rest := [.int x, .ref w]) hF (c_L_cell l D cI cZ cT bs L xs hL k (by omega)) (va_cwS 2 hts (gqS mw_390 mw_391 mw_309 mw_300) rfl rfl rfl hd_L_cell.2 ⟨Nat.le_of_ble_eq_true rfl, Nat.le_of_ble_eq_true rfl⟩) hK hP q_X_bl (q_X_go hX hbl hS hbA) [] rfl rfl hl.1 rfl (Nat.le_of_ble_eq_true rfl) dL_law_28 ⟨Nat.le_of_ble_eq_true rfl, Nat.le_of_ble_eq_true rfl⟩ ?_
    rw [← ev]
    refine lv_iconst (v := 4) hx hb dL_law_31 (by decide) ?_
    refine lv_ishr hx hb dL_law_32 ?_
    refine lv_bipush (v := 10) hx hb dL_law_33 (by decide) ?_
    refine x_RS (As := [.int (v >>> ((4 : Int32) &&& 31)), .int (10 : Int32)]) (rest := [.int x, .ref w]) hF (c_L_low l D cI cZ cT (v >>> ((4 : Int32) &&& 31)) (10 : Int32) y f2) (va_cwS 2 hts (gqS mw_307 mw_308 mw_309 mw_301) rfl rfl rfl hd_L_low.2 ⟨Nat.le_of_ble_eq_true rfl, Nat.le_of_ble_eq_true rfl⟩) hK hP q_T_bl (fun _ _ _ => trivial) [] rfl rfl hl.1 rfl (Nat.le_of_ble_eq_true rfl) dL_law_35 ⟨Nat.le_of_ble_eq_true rfl, Nat.le_of_ble_eq_true rfl⟩ ?_
    refine x_MVp (As := [.int x, .int y]) (rest := []) (wr := []) (W1 := ((wX w o hs pd sl) ++ (wT cI o a t1) ++ (wH cI cT hs hst_ ta ca h1) ++ (wPd cI pd sg nm pp))) hF (c_X3_person l D cI cZ cT G _ w sl o a t hs hst_ ta ca hh pd sg nm pp x y (nI k, t1, h1) f3) (cwV 2 hts (gqV mw_330 mw_331 mw_332 mw_51 mw_236) rfl rfl rfl hd_X3_person ⟨Nat.le_of_ble_eq_true rfl, Nat.le_of_ble_eq_true rfl⟩) hK hP hD hS hA q_E_bl (q_E_go hE hS (q_freep (wr := []) (List.Perm.refl _) hD hS hA)) (List.Perm.refl _) (List.Perm.refl _) rfl rfl rfl hl.1 rfl (Nat.le_of_ble_eq_true rfl) dL_law_38 ⟨Nat.le_of_ble_eq_true rfl, Nat.le_of_ble_eq_true rfl⟩ (fun H locs hP hD hS => ?_)
    refine lv_istore_n (lv' := [(3, .int (nI k)), (0, .ref bs), (1, .ref w), (2, .int (nI k))]) hx hb dL_law_41 rfl hl (by decide) rfl (fun ls hl => ?_)
    refine lv_iload_n hx hb dL_law_42 rfl (lv_at hl 0 rfl) ?_
    refine lv_iload_n hx hb dL_law_43 rfl (lv_at hl 3 rfl) ?_
    refine lv_icmp_eq (tgt := 49) hx hb dL_law_44 (by decide) (fun _ => ?_) (fun c9 => absurd rfl c9)
    refine lv_iinc (v := (nI k + 1)) (lv' := [(2, .int (nI k + 1)), (3, .int (nI k)), (0, .ref bs), (1, .ref w)]) hx hb dL_law_49 hl (k := 3) rfl rfl (by decide) rfl (fun ls hl => ?_)
    refine lv_goto (tgt := 10) hx hb dL_law_52 (by decide) ?_
    have hl : lv_has ls 5 [(2, .int (nI (k + 1))), (3, .int (nI k)), (0, .ref bs), (1, .ref w)] := by rw [show nI (k + 1) = nI k + 1 from (nI_1 _).symm]; exact hl
    exact ih (k + 1) (by omega) t1 h1 g1 k1 H locs ls hP hD hS (lv_sub hl [2, 3, 0] rfl)
end G_LO

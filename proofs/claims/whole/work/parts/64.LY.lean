section G_LY
variable {p : Program} {l : Launch} {e : Env} {s : State} {m : MethodId} {args : Array Value} {below : List Frame} {meth : Method} {c : Code} {D : va_G} {cI cZ cT : ClassId}

set_option maxHeartbeats 8000000 in
set_option maxRecDepth 100000 in
theorem law_loop {G : q_G} {bs L : Nat} {xs : Nat → Int32} (J : JT) (hst : Steps J) (hL : L ≤ 2048) (hargs : args = #[Value.ref bs]) (C0 : q_At p s m args meth c code 4 ret RL) (hK : va_K D vwCl (q_tys cI cZ cT) s) (hA : ∀ q, s.heap.size ≤ q → (fun q : Nat => s.heap.size ≤ q) q) (hE : q_E G (fun q : Nat => s.heap.size ≤ q) s) (hX : va_X bs L xs s s.heap) (hbl : bs < s.heap.size) (hbA : ¬ (fun q : Nat => s.heap.size ≤ q) bs) (w sl o a : Nat) (hs hst_ : Nat) (ta ca : Nat → Nat) (pd sg nm mo : Nat) (b : Nat → Nat) : ∀ (d k : Nat), 513 ≤ k + d → k ≤ 512 → ∀ (x0 x1 : Option (Nat × Nat × TT)) (t : TT) (hh : HH) (pp : PP) (mm : MM), J k t hh pp (twn x0) (twn x1) mm → ∀ (H : Heap) (locs : List Loc) (ls : Array Slot), va_P D vwCl (((wX w o hs pd sl) ++ (wT cI o a t) ++ (wH cI cT hs hst_ ta ca hh) ++ (wPd cI pd sg nm pp)) ++ (wSl cI cT sl x0 x1) ++ (wM cI cZ mo b mm)) H → va_D (fun q : Nat => s.heap.size ≤ q) (((wX w o hs pd sl) ++ (wT cI o a t) ++ (wH cI cT hs hst_ ta ca hh) ++ (wPd cI pd sg nm pp)) ++ (wSl cI cT sl x0 x1) ++ (wM cI cZ mo b mm)) → va_S (fun q : Nat => s.heap.size ≤ q) s.heap H locs → lv_has ls 4 [(0, .ref bs), (1, .ref w), (2, .ref mo), (3, .int (nI (4 * k)))] → W p l e room_1 s m args below meth c H locs (30 + 2 * k) (3463 + 182 * k) (lw_Z below args s) (F0 m 18 ls []) := by
  obtain ⟨hx, hb, hr0, hml, hown, hts, hlocks⟩ := id C0
  obtain ⟨u0, u1, u2, u3, u4, u5, u6, u7, u8, u9, u10, u11, u12, u13, u14, u15, u16, u17, u18, u19, u20, u21, u22, u23, u24, u25, u26, u27, u28⟩ := hst
  intro d
  induction d with
  | zero => intro k h1 h2; omega
  | succ d ih =>
    intro k hkd hk x0 x1 t hh pp mm hJ H locs ls hP hD hS hl
    refine lv_iload_n hx hb dL_law_18 rfl (lv_at hl 3 rfl) ?_
    refine lv_aload_n hx hb dL_law_19 rfl (lv_at hl 0 rfl) ?_
    refine va_slen hx hb hX hbl hbA hS dL_law_20 ?_
    refine lv_iconst (v := 4) hx hb dL_law_21 (by decide) ?_
    refine lv_isub hx hb dL_law_22 ?_
    have e4 : (nI L - 4).toInt = (L : Int) - 4 := by rw [show (4 : Int32) = nI 4 from rfl]; exact pk_sub_toInt (by omega) (by omega)
    have ek : (nI (4 * k)).toInt = ((4 * k : Nat) : Int) := nI_toInt (by omega)
    refine lv_icmp_gt (tgt := 910) hx hb dL_law_23 (by decide) (fun c9 => ?_) (fun c9 => ?_)
    · refine va_forget (locs := locs) (fun x hx9 => hS.2.2 x hx9) ?_
      refine W.widen (k := 600000) (n := 7302250) (by omega) (by omega) ?_
      refine lv_iconst (v := 1) hx hb dL_law_910 (by decide) ?_
      subst hargs
      exact lw_ret hx hb hr0 hlocks dL_law_911
    · have h9 : 4 * k + 4 ≤ L := by
        have h8 : nI (4 * k) ≤ nI L - 4 := Int32.not_lt.mp c9
        rw [Int32.le_iff_toInt_le, e4, ek] at h8
        omega
      have hk512 : k < 512 := by omega
      have hi0 : vp_in (nI (4 * k + 0)) L := vp_in_nI (by omega) (by omega)
      have hi1 : vp_in (nI (4 * k + 1)) L := vp_in_nI (by omega) (by omega)
      have hi2 : vp_in (nI (4 * k + 2)) L := vp_in_nI (by omega) (by omega)
      have hi3 : vp_in (nI (4 * k + 3)) L := vp_in_nI (by omega) (by omega)
      have hnext : ∀ (t : TT) (hh : HH) (pp : PP) (x0 x1 : Option (Nat × Nat × TT)) (mm : MM), J (k + 1) t hh pp (twn x0) (twn x1) mm → ∀ (H : Heap) (locs : List Loc) (ls : Array Slot), va_P D vwCl (((wX w o hs pd sl) ++ (wT cI o a t) ++ (wH cI cT hs hst_ ta ca hh) ++ (wPd cI pd sg nm pp)) ++ (wSl cI cT sl x0 x1) ++ (wM cI cZ mo b mm)) H → va_D (fun q : Nat => s.heap.size ≤ q) (((wX w o hs pd sl) ++ (wT cI o a t) ++ (wH cI cT hs hst_ ta ca hh) ++ (wPd cI pd sg nm pp)) ++ (wSl cI cT sl x0 x1) ++ (wM cI cZ mo b mm)) → va_S (fun q : Nat => s.heap.size ≤ q) s.heap H locs → lv_has ls 4 [(0, .ref bs), (1, .ref w), (2, .ref mo), (3, .int (nI (4 * k)))] → W p l e room_1 s m args below meth c H locs (30 + 2 * k + 2) (3463 + 182 * k + 182) (lw_Z below args s) (F0 m 904 ls []) := by
        intro t hh pp x0 x1 mm hJ H locs ls hP hD hS hl
        refine lv_iinc (v := nI (4 * (k + 1))) (lv' := [(3, .int (nI (4 * (k + 1)))), (0, .ref bs), (1, .ref w), (2, .ref mo)]) hx hb dL_law_904 hl (k := 3) rfl (by rw [show Int32.ofInt 4 = nI 4 from rfl, nI_add]; rfl) (by decide) rfl (fun ls hl => ?_)
        refine lv_goto (tgt := 18) hx hb dL_law_907 (by decide) ?_
        have := ih (k + 1) (by omega) (by omega) x0 x1 t hh pp mm hJ H locs ls hP hD hS (lv_sub hl [1, 2, 3, 0] rfl)
        rw [show 30 + 2 * (k + 1) = 30 + 2 * k + 2 by omega, show 3463 + 182 * (k + 1) = 3463 + 182 * k + 182 by omega] at this
        exact this
      have hnx2 : ∀ (t : TT) (hh : HH) (pp : PP) (x0 x1 : Option (Nat × Nat × TT)) (mm : MM), J (k + 1) t hh pp (twn x0) (twn x1) mm → ∀ (H : Heap) (locs : List Loc) (ls : Array Slot), va_P D vwCl (((wX w o hs pd sl) ++ (wT cI o a t) ++ (wH cI cT hs hst_ ta ca hh) ++ (wPd cI pd sg nm pp)) ++ (wSl cI cT sl x0 x1) ++ (wM cI cZ mo b mm)) H → va_D (fun q : Nat => s.heap.size ≤ q) (((wX w o hs pd sl) ++ (wT cI o a t) ++ (wH cI cT hs hst_ ta ca hh) ++ (wPd cI pd sg nm pp)) ++ (wSl cI cT sl x0 x1) ++ (wM cI cZ mo b mm)) → va_S (fun q : Nat => s.heap.size ≤ q) s.heap H locs → lv_has ls 4 [(0, .ref bs), (1, .ref w), (2, .ref mo), (3, .int (nI (4 * k)))] → W p l e room_1 s m args below meth c H locs (30 + 2 * k) (3463 + 182 * k) (lw_Z below args s) (F0 m 904 ls []) := fun t hh pp x0 x1 mm hJ H locs ls hP hD hS hl => W.widen (k := 30 + 2 * k + 2) (n := 3463 + 182 * k + 182) (by omega) (by omega) (hnext t hh pp x0 x1 mm hJ H locs ls hP hD hS hl)
      have hc : 30 + 2 * k + 2 ≤ room_1.cells := by show 30 + 2 * k + 2 ≤ 600000; omega
      have hc2 : 3463 + 182 * k + 182 ≤ room_1.slots := by show 3463 + 182 * k + 182 ≤ 7302250; omega
      have hc3 : 30 + 2 * k ≤ room_1.cells := by show 30 + 2 * k ≤ 600000; omega
      have hc4 : 3463 + 182 * k ≤ room_1.slots := by show 3463 + 182 * k ≤ 7302250; omega
      refine lv_aload_n hx hb dL_law_26 rfl (lv_at hl 0 rfl) ?_
      refine lv_iload_n hx hb dL_law_27 rfl (lv_at hl 3 rfl) ?_
      refine va_sld hx hb hX hbl hbA hS hi0 dL_law_28 ?_
      refine lv_bipush (v := 31) hx hb dL_law_29 (by decide) ?_
      refine lv_iand hx hb dL_law_31 ?_
      obtain ⟨j, hj, ej⟩ := pk_andE (xs (nI (4 * k)).toNatClampNeg) (m := 31) 5 (by decide)
      rw [ej]
      have hj : j < 32 := hj
      clear ej
      by_cases hj28 : 28 ≤ j
      · refine lv_tableOut (tgt := 904) hx hb dL_law_32 (Or.inr (by rw [nI_toInt (by omega)]; omega)) (by decide) ?_
        exact hnx2 t hh pp x0 x1 mm (u28 k t hh pp (twn x0) (twn x1) mm hk512 hJ) H locs ls hP hD hS hl
      · rcases (show j = 0 ∨ j = 1 ∨ j = 2 ∨ j = 3 ∨ j = 4 ∨ j = 5 ∨ j = 6 ∨ j = 7 ∨ j = 8 ∨ j = 9 ∨ j = 10 ∨ j = 11 ∨ j = 12 ∨ j = 13 ∨ j = 14 ∨ j = 15 ∨ j = 16 ∨ j = 17 ∨ j = 18 ∨ j = 19 ∨ j = 20 ∨ j = 21 ∨ j = 22 ∨ j = 23 ∨ j = 24 ∨ j = 25 ∨ j = 26 ∨ j = 27 by omega) with rfl | rfl | rfl | rfl | rfl | rfl | rfl | rfl | rfl | rfl | rfl | rfl | rfl | rfl | rfl | rfl | rfl | rfl | rfl | rfl | rfl | rfl | rfl | rfl | rfl | rfl | rfl | rfl
        · refine lv_tableIn (tgt := 160) (off := 128) hx hb dL_law_32 (by decide) (by decide) (by rfl) (by decide) ?_
          exact lc_set J u0 C0 hK hA hE hX hbl hbA k hk512 hi1 hi2 hi3 hc3 hc4 w sl o a hs hst_ ta ca pd sg nm mo b x0 x1 t hh pp mm hJ hnx2 H locs ls hP hD hS hl
        · refine lv_tableIn (tgt := 193) (off := 161) hx hb dL_law_32 (by decide) (by decide) (by rfl) (by decide) ?_
          exact lc_person J u1 C0 hK hA hE hX hbl hbA k hk512 hi1 hi2 hi3 hc3 hc4 w sl o a hs hst_ ta ca pd sg nm mo b x0 x1 t hh pp mm hJ hnx2 H locs ls hP hD hS hl
        · refine lv_tableIn (tgt := 226) (off := 194) hx hb dL_law_32 (by decide) (by decide) (by rfl) (by decide) ?_
          exact lc_second J u2 C0 hK hA hE hX hbl hbA k hk512 hi1 hi2 hi3 hc3 hc4 w sl o a hs hst_ ta ca pd sg nm mo b x0 x1 t hh pp mm hJ hnx2 H locs ls hP hD hS hl
        · refine lv_tableIn (tgt := 259) (off := 227) hx hb dL_law_32 (by decide) (by decide) (by rfl) (by decide) ?_
          exact lc_allow J u3 C0 hK hA hE hX hbl hbA k hk512 hi1 hi2 hi3 hc3 hc4 w sl o a hs hst_ ta ca pd sg nm mo b x0 x1 t hh pp mm hJ hnx2 H locs ls hP hD hS hl
        · refine lv_tableIn (tgt := 282) (off := 250) hx hb dL_law_32 (by decide) (by decide) (by rfl) (by decide) ?_
          exact lc_insult J u4 C0 hK hA hE hX hbl hbA k hk512 hi1 hi2 hi3 hc3 hc4 w sl o a hs hst_ ta ca pd sg nm mo b x0 x1 t hh pp mm hJ hnx2 H locs ls hP hD hS hl
        · refine lv_tableIn (tgt := 325) (off := 293) hx hb dL_law_32 (by decide) (by decide) (by rfl) (by decide) ?_
          exact lc_settle J u5 C0 hK hA hE hX hbl hbA k hk512 hi1 hi2 hi3 hc3 hc4 w sl o a hs hst_ ta ca pd sg nm mo b x0 x1 t hh pp mm hJ hnx2 H locs ls hP hD hS hl
        · refine lv_tableIn (tgt := 358) (off := 326) hx hb dL_law_32 (by decide) (by decide) (by rfl) (by decide) ?_
          exact lc_fight J u6 C0 hK hA hE hX hbl hbA k hk512 hi1 hi2 hi3 hc3 hc4 w sl o a hs hst_ ta ca pd sg nm mo b x0 x1 t hh pp mm hJ hnx2 H locs ls hP hD hS hl
        · refine lv_tableIn (tgt := 381) (off := 349) hx hb dL_law_32 (by decide) (by decide) (by rfl) (by decide) ?_
          exact lc_swear J u7 C0 hK hA hE hX hbl hbA k hk512 hi1 hi2 hi3 hc3 hc4 w sl o a hs hst_ ta ca pd sg nm mo b x0 x1 t hh pp mm hJ hnx2 H locs ls hP hD hS hl
        · refine lv_tableIn (tgt := 404) (off := 372) hx hb dL_law_32 (by decide) (by decide) (by rfl) (by decide) ?_
          exact lc_pass J u8 C0 hK hA hE hX hbl hbA k hk512 hi1 hi2 hi3 hc3 hc4 w sl o a hs hst_ ta ca pd sg nm mo b x0 x1 t hh pp mm hJ hnx2 H locs ls hP hD hS hl
        · refine lv_tableIn (tgt := 427) (off := 395) hx hb dL_law_32 (by decide) (by decide) (by rfl) (by decide) ?_
          exact lc_of J u9 C0 hK hA hE hX hbl hbA k hk512 hi1 hi2 hi3 hc3 hc4 w sl o a hs hst_ ta ca pd sg nm mo b x0 x1 t hh pp mm hJ hnx2 H locs ls hP hD hS hl
        · refine lv_tableIn (tgt := 460) (off := 428) hx hb dL_law_32 (by decide) (by decide) (by rfl) (by decide) ?_
          exact lc_quarrel J u10 C0 hK hA hE hX hbl hbA k hk512 hi1 hi2 hi3 hc3 hc4 w sl o a hs hst_ ta ca pd sg nm mo b x0 x1 t hh pp mm hJ hnx2 H locs ls hP hD hS hl
        · refine lv_tableIn (tgt := 493) (off := 461) hx hb dL_law_32 (by decide) (by decide) (by rfl) (by decide) ?_
          exact lc_record J u11 C0 hK hA hE hX hbl hbA k hk512 hi1 hi2 hi3 hc3 hc4 w sl o a hs hst_ ta ca pd sg nm mo b x0 x1 t hh pp mm hJ hnx2 H locs ls hP hD hS hl
        · refine lv_tableIn (tgt := 526) (off := 494) hx hb dL_law_32 (by decide) (by decide) (by rfl) (by decide) ?_
          exact lc_pressing J u12 C0 hK hA hE hX hbl hbA k hk512 hi1 hi2 hi3 hc3 hc4 w sl o a hs hst_ ta ca pd sg nm mo b x0 x1 t hh pp mm hJ hnx2 H locs ls hP hD hS hl
        · refine lv_tableIn (tgt := 549) (off := 517) hx hb dL_law_32 (by decide) (by decide) (by rfl) (by decide) ?_
          exact lc_insults J u13 C0 hK hA hE hX hbl hbA k hk512 hi1 hi2 hi3 hc3 hc4 w sl o a hs hst_ ta ca pd sg nm mo b x0 x1 t hh pp mm hJ hnx2 H locs ls hP hD hS hl
        · refine lv_tableIn (tgt := 572) (off := 540) hx hb dL_law_32 (by decide) (by decide) (by rfl) (by decide) ?_
          exact lc_count J u14 C0 hK hA hE hX hbl hbA k hk512 hi1 hi2 hi3 hc3 hc4 w sl o a hs hst_ ta ca pd sg nm mo b x0 x1 t hh pp mm hJ hnx2 H locs ls hP hD hS hl
        · refine lv_tableIn (tgt := 595) (off := 563) hx hb dL_law_32 (by decide) (by decide) (by rfl) (by decide) ?_
          exact lc_why J u15 C0 hK hA hE hX hbl hbA k hk512 hi1 hi2 hi3 hc3 hc4 w sl o a hs hst_ ta ca pd sg nm mo b x0 x1 t hh pp mm hJ hnx2 H locs ls hP hD hS hl
        · refine lv_tableIn (tgt := 618) (off := 586) hx hb dL_law_32 (by decide) (by decide) (by rfl) (by decide) ?_
          exact lc_firstWay J u16 C0 hK hA hE hX hbl hbA k hk512 hi1 hi2 hi3 hc3 hc4 w sl o a hs hst_ ta ca pd sg nm mo b x0 x1 t hh pp mm hJ hnx2 H locs ls hP hD hS hl
        · refine lv_tableIn (tgt := 641) (off := 609) hx hb dL_law_32 (by decide) (by decide) (by rfl) (by decide) ?_
          exact lc_opensIn J u17 C0 hK hA hE hX hbl hbA k hk512 hi1 hi2 hi3 hc3 hc4 w sl o a hs hst_ ta ca pd sg nm mo b x0 x1 t hh pp mm hJ hnx2 H locs ls hP hD hS hl
        · refine lv_tableIn (tgt := 664) (off := 632) hx hb dL_law_32 (by decide) (by decide) (by rfl) (by decide) ?_
          exact lc_dueIn J u18 C0 hK hA hE hX hbl hbA k hk512 hi1 hi2 hi3 hc3 hc4 w sl o a hs hst_ ta ca pd sg nm mo b x0 x1 t hh pp mm hJ hnx2 H locs ls hP hD hS hl
        · refine lv_tableIn (tgt := 687) (off := 655) hx hb dL_law_32 (by decide) (by decide) (by rfl) (by decide) ?_
          exact lc_ifInsulted J u19 C0 hK hA hE hX hbl hbA k hk512 hi1 hi2 hi3 hc3 hc4 w sl o a hs hst_ ta ca pd sg nm mo b x0 x1 t hh pp mm hJ hnx2 H locs ls hP hD hS hl
        · refine lv_tableIn (tgt := 730) (off := 698) hx hb dL_law_32 (by decide) (by decide) (by rfl) (by decide) ?_
          exact lc_ifFought J u20 C0 hK hA hE hX hbl hbA k hk512 hi1 hi2 hi3 hc3 hc4 w sl o a hs hst_ ta ca pd sg nm mo b x0 x1 t hh pp mm hJ hnx2 H locs ls hP hD hS hl
        · refine lv_tableIn (tgt := 753) (off := 721) hx hb dL_law_32 (by decide) (by decide) (by rfl) (by decide) ?_
          exact lc_put J u21 C0 hK hA hE hX hbl hbA k hk512 hi1 hi2 hi3 hc3 hc4 w sl o a hs hst_ ta ca pd sg nm mo b x0 x1 t hh pp mm hJ hnx2 H locs ls hP hD hS hl
        · refine lv_tableIn (tgt := 806) (off := 774) hx hb dL_law_32 (by decide) (by decide) (by rfl) (by decide) ?_
          exact lc_wipe J u22 C0 hK hA hE hX hbl hbA k hk512 hi1 hi2 hi3 hc3 hc4 w sl o a hs hst_ ta ca pd sg nm mo b x0 x1 t hh pp mm hJ hnx2 H locs ls hP hD hS hl
        · refine lv_tableIn (tgt := 819) (off := 787) hx hb dL_law_32 (by decide) (by decide) (by rfl) (by decide) ?_
          exact lc_fault J u23 C0 hK hA hE hX hbl hbA k hk512 hi1 hi2 hi3 hc3 hc4 w sl o a hs hst_ ta ca pd sg nm mo b x0 x1 t hh pp mm hJ hnx2 H locs ls hP hD hS hl
        · refine lv_tableIn (tgt := 832) (off := 800) hx hb dL_law_32 (by decide) (by decide) (by rfl) (by decide) ?_
          exact lc_carryOut J u24 C0 hK hA hE hX hbl hbA k hk512 hi1 hi2 hi3 hc3 hc4 w sl o a hs hst_ ta ca pd sg nm mo b x0 x1 t hh pp mm hJ hnx2 H locs ls hP hD hS hl
        · refine lv_tableIn (tgt := 845) (off := 813) hx hb dL_law_32 (by decide) (by decide) (by rfl) (by decide) ?_
          exact lc_undo J u25 C0 hK hA hE hX hbl hbA k hk512 hi1 hi2 hi3 hc3 hc4 w sl o a hs hst_ ta ca pd sg nm mo b x0 x1 t hh pp mm hJ hnx2 H locs ls hP hD hS hl
        · refine lv_tableIn (tgt := 858) (off := 826) hx hb dL_law_32 (by decide) (by decide) (by rfl) (by decide) ?_
          exact lc_save J u26 C0 hK hA hE hX hbl hbA k hk512 hi1 hc hc2 w sl o a hs hst_ ta ca pd sg nm mo b x0 x1 t hh pp mm hJ hnext H locs ls hP hD hS hl
        · refine lv_tableIn (tgt := 881) (off := 849) hx hb dL_law_32 (by decide) (by decide) (by rfl) (by decide) ?_
          exact lc_restore J u27 C0 hK hA hE hX hbl hbA k hk512 hi1 hc3 hc4 w sl o a hs hst_ ta ca pd sg nm mo b x0 x1 t hh pp mm hJ hnx2 H locs ls hP hD hS hl
end G_LY

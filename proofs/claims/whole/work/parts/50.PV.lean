/-! an order: both readers alike -/
def EX (hh : HH) (q : PP) (mm : MM) (a a' : Nat) : Prop := ∀ (B : Nat) (t : TT), B < 1000000 → RT B t mm.1 → UI mm.1 → ∃ r r' t' u', f_X3_carryOutOrder t hh q = some (r, t') ∧ f_X4_order (PM mm a 0) 1 = some (r', M0 (PM mm a' 0) u') ∧ RT (B + 1) t' u' ∧ UI u' ∧ (IsE r ↔ IsE r')
def OB (pp : PP) (g : Nat → Int32) (n a : Nat) (q0 : PP) : Prop :=
  (∃ a' l1 m1 f1, a + 2 ≤ a' ∧ a' ≤ n ∧ f_X1_readOrder q0 = some (1, QS pp l1 a' m1 f1) ∧ ∀ mm : MM, mm.2.2.2.2.2.2.1 = g → mm.2.2.2.2.2.2.2.1 = nI n → f_X4_order (PM mm a 0) 0 = some (0, PM mm a' 0) ∧ ∀ hh, EX hh (QS pp l1 a' m1 f1) mm a a') ∨
  (∃ a' l1 m1 f1, a' ≤ n ∧ f_X1_readOrder q0 = some (0, QS pp l1 a' m1 f1) ∧ ∀ mm : MM, mm.2.2.2.2.2.2.1 = g → mm.2.2.2.2.2.2.2.1 = nI n → f_X4_order (PM mm a 0) 0 = some (0, PM mm a' 1))
section PV
variable {pp : PP} {n a m : Nat} {l w : Int32} {f : Nat → Int32} {g : Nat → Int32}
theorem co_p (t : TT) (hh : HH) {q : PP} {x y z : Int32} (hx : f_X1_number q 0 = some x) (hy : f_X1_number q 1 = some y) (hz : f_X1_number q 2 = some z) (hq : q.2.2.2.1 = 112) : f_X3_carryOutOrder t hh q = f_X2_addPerson t x y := by
  unfold f_X3_carryOutOrder
  rw [ob hx, ob hy, hq, if_neg (by decide), if_neg (by decide), if_neg (by decide), if_neg (by decide), if_neg (by decide), if_neg (by decide), if_neg (by decide), if_neg (by decide), if_neg (by decide), if_neg (by decide), if_neg (by decide), if_neg (by decide), if_neg (by decide), if_neg (by decide), if_neg (by decide), if_pos rfl, b_eta]
theorem co_s (t : TT) (hh : HH) {q : PP} {x y z : Int32} (hx : f_X1_number q 0 = some x) (hy : f_X1_number q 1 = some y) (hz : f_X1_number q 2 = some z) (hq : q.2.2.2.1 = 115) : f_X3_carryOutOrder t hh q = f_X2_takeSecond t x y := by
  unfold f_X3_carryOutOrder
  rw [ob hx, ob hy, hq, if_neg (by decide), if_neg (by decide), if_neg (by decide), if_neg (by decide), if_neg (by decide), if_neg (by decide), if_neg (by decide), if_neg (by decide), if_neg (by decide), if_neg (by decide), if_neg (by decide), if_neg (by decide), if_neg (by decide), if_neg (by decide), if_neg (by decide), if_neg (by decide), if_neg (by decide), if_neg (by decide), if_pos rfl, b_eta]
theorem co_i (t : TT) (hh : HH) {q : PP} {x y z : Int32} (hx : f_X1_number q 0 = some x) (hy : f_X1_number q 1 = some y) (hz : f_X1_number q 2 = some z) (hq : q.2.2.2.1 = 105) : f_X3_carryOutOrder t hh q = f_X2_addQuarrel t x y z := by
  unfold f_X3_carryOutOrder
  rw [ob hx, ob hy, hq, if_neg (by decide), if_neg (by decide), if_neg (by decide), if_neg (by decide), if_neg (by decide), if_neg (by decide), if_neg (by decide), if_neg (by decide), if_pos rfl, ob hz, b_eta]
theorem co_w (t : TT) (hh : HH) {q : PP} {x y z : Int32} (hx : f_X1_number q 0 = some x) (hy : f_X1_number q 1 = some y) (hz : f_X1_number q 2 = some z) (hq : q.2.2.2.1 = 119) : f_X3_carryOutOrder t hh q = f_X2_settleBy t x y := by
  unfold f_X3_carryOutOrder
  rw [ob hx, ob hy, hq, if_neg (by decide), if_neg (by decide), if_neg (by decide), if_neg (by decide), if_neg (by decide), if_neg (by decide), if_neg (by decide), if_neg (by decide), if_neg (by decide), if_neg (by decide), if_neg (by decide), if_neg (by decide), if_neg (by decide), if_neg (by decide), if_neg (by decide), if_neg (by decide), if_neg (by decide), if_neg (by decide), if_neg (by decide), if_neg (by decide), if_neg (by decide), if_neg (by decide), if_pos rfl, b_eta]
theorem co_f (t : TT) (hh : HH) {q : PP} {x y z : Int32} (hx : f_X1_number q 0 = some x) (hy : f_X1_number q 1 = some y) (hz : f_X1_number q 2 = some z) (hq : q.2.2.2.1 = 102) : f_X3_carryOutOrder t hh q = f_X2_duel t x := by
  unfold f_X3_carryOutOrder
  rw [ob hx, ob hy, hq, if_neg (by decide), if_neg (by decide), if_neg (by decide), if_neg (by decide), if_neg (by decide), if_pos rfl, b_eta]
theorem co_t (t : TT) (hh : HH) {q : PP} {x y z : Int32} (hx : f_X1_number q 0 = some x) (hy : f_X1_number q 1 = some y) (hz : f_X1_number q 2 = some z) (hq : q.2.2.2.1 = 116) : f_X3_carryOutOrder t hh q = f_X2_moveOn t x := by
  unfold f_X3_carryOutOrder
  rw [ob hx, ob hy, hq, if_neg (by decide), if_neg (by decide), if_neg (by decide), if_neg (by decide), if_neg (by decide), if_neg (by decide), if_neg (by decide), if_neg (by decide), if_neg (by decide), if_neg (by decide), if_neg (by decide), if_neg (by decide), if_neg (by decide), if_neg (by decide), if_neg (by decide), if_neg (by decide), if_neg (by decide), if_neg (by decide), if_neg (by decide), if_pos rfl, b_eta]
theorem co_o (t : TT) (hh : HH) {q : PP} {x y z : Int32} (hx : f_X1_number q 0 = some x) (hy : f_X1_number q 1 = some y) (hz : f_X1_number q 2 = some z) (hq : q.2.2.2.1 = 111) : f_X3_carryOutOrder t hh q = f_X2_takeOath t x := by
  unfold f_X3_carryOutOrder
  rw [ob hx, ob hy, hq, if_neg (by decide), if_neg (by decide), if_neg (by decide), if_neg (by decide), if_neg (by decide), if_neg (by decide), if_neg (by decide), if_neg (by decide), if_neg (by decide), if_neg (by decide), if_neg (by decide), if_neg (by decide), if_neg (by decide), if_neg (by decide), if_pos rfl, b_eta]
theorem co_a (t : TT) (hh : HH) {q : PP} {x y z : Int32} (hx : f_X1_number q 0 = some x) (hy : f_X1_number q 1 = some y) (hz : f_X1_number q 2 = some z) (hq : q.2.2.2.1 = 97) : f_X3_carryOutOrder t hh q = f_X2_allowOrBar t x := by
  unfold f_X3_carryOutOrder
  rw [ob hx, ob hy, hq, if_pos rfl, b_eta]
theorem ord_f (hl : pp.2.1 = nI n) (hn : n ≤ 80) (hg : ∀ i, i < n → pp.1 i = g i) (ha : a < n) (es : Sg pp.1 n a = Sg g n a) (hv : Sg g n a = 102) : OB pp g n a (QW pp l a w f) := by
  have hro : f_X1_readOrder (QW pp l a w f) = run [110] (QS pp 102 (a + 1) 0 f) := by
    rw [readOrder_e hl hn (by omega) (i := 4) (es.trans hv) (by decide) (by decide +kernel), form_4]
  rcases num_both (pp := pp) (l := 102) (m := 0) (f := f) (a := a + 1) hl hn hg (by omega) (by decide) with ⟨V0, A0, B0, C0, R0, X0⟩ | ⟨R0, X0⟩
  · refine Or.inl ⟨A0, 102, 1, upd (f) 0 V0, by omega, by omega, ?_, fun mm h1 h2 => ?_⟩
    · rw [hro, run, ob R0, if_neg n10, run]
    · have hv1 : Sg mm.2.2.2.2.2.2.1 n a = 102 := by rw [h1]; exact hv
      have H0 := X0 mm h1 h2
      refine ⟨?_, fun hh B t hB hRT hUI => ?_⟩
      · rw [ord_e h2 hn (by omega) hv1 (by decide) 0]
        unfold ordT
        rw [if_neg (by decide), if_pos rfl, b_eta, ob H0, if_neg (by decide), ob rfl, if_neg (by decide), ob rfl, if_neg (by decide), if_neg (by decide), if_neg (by decide), if_neg (by decide), ob rfl, if_neg (by decide), ob rfl, if_pos rfl]
      · have Y0 := number_e (pp := pp) (l := 102) (a := A0) (m := 1) (f := upd (f) 0 V0) (by decide) (j := 0) (by decide)
        have Y1 := number_e (pp := pp) (l := 102) (a := A0) (m := 1) (f := upd (f) 0 V0) (by decide) (j := 1) (by decide)
        have Y2 := number_e (pp := pp) (l := 102) (a := A0) (m := 1) (f := upd (f) 0 V0) (by decide) (j := 2) (by decide)
        have HC : f_X3_carryOutOrder t hh (QS pp 102 (A0) 1 (upd (f) 0 V0)) = f_X2_duel t V0 := co_f t hh Y0 Y1 Y2 rfl
        have HX : ∀ r u1, f_X4_fights mm.1 V0 = some (r, u1) → f_X4_order (PM mm a 0) 1 = some (r, M0 (PM mm (A0) 0) u1) := fun r u1 o2 => by
          rw [ord_e h2 hn (by omega) hv1 (by decide) 1]
          unfold ordT
          rw [if_neg (by decide), if_pos rfl, b_eta, ob H0, if_neg (by decide), ob rfl, if_neg (by decide), ob rfl, if_neg (by decide), if_neg (by decide), if_neg (by decide), if_neg (by decide), ob rfl, if_neg (by decide), ob rfl, if_neg n10, if_pos rfl]
          show ((f_X4_fights mm.1 V0).bind fun x45 => some (x45.1, M0 (PM mm (A0) 0) x45.2)) = _
          rw [ob o2]
        obtain ⟨hS, np, nq, hN⟩ := hUI
        obtain ⟨r, t1, u1, o1, o2, o3, o4⟩ := op_fight hRT hB hS hN V0
        exact ⟨r, r, t1, u1, HC.trans o1, HX r u1 o2, o3, o4, Iff.rfl⟩
  · refine Or.inr ⟨a + 1, 102, 0, f, by omega, ?_, fun mm h1 h2 => ?_⟩
    · rw [hro, run, ob R0, if_pos rfl]
    · have hv1 : Sg mm.2.2.2.2.2.2.1 n a = 102 := by rw [h1]; exact hv
      obtain ⟨W0, H0⟩ := X0 mm h1 h2
      rw [ord_e h2 hn (by omega) hv1 (by decide) 0]
      unfold ordT
      rw [if_neg (by decide), if_pos rfl, b_eta, ob H0, if_neg (by decide), ob rfl, if_neg (by decide), ob rfl, if_neg (by decide), if_neg (by decide), if_neg (by decide), if_neg (by decide), ob rfl, if_neg (by decide), ob rfl, if_pos rfl]
theorem ord_t (hl : pp.2.1 = nI n) (hn : n ≤ 80) (hg : ∀ i, i < n → pp.1 i = g i) (ha : a < n) (es : Sg pp.1 n a = Sg g n a) (hv : Sg g n a = 116) : OB pp g n a (QW pp l a w f) := by
  have hro : f_X1_readOrder (QW pp l a w f) = run [110] (QS pp 116 (a + 1) 0 f) := by
    rw [readOrder_e hl hn (by omega) (i := 4) (es.trans hv) (by decide) (by decide +kernel), form_4]
  rcases num_both (pp := pp) (l := 116) (m := 0) (f := f) (a := a + 1) hl hn hg (by omega) (by decide) with ⟨V0, A0, B0, C0, R0, X0⟩ | ⟨R0, X0⟩
  · refine Or.inl ⟨A0, 116, 1, upd (f) 0 V0, by omega, by omega, ?_, fun mm h1 h2 => ?_⟩
    · rw [hro, run, ob R0, if_neg n10, run]
    · have hv1 : Sg mm.2.2.2.2.2.2.1 n a = 116 := by rw [h1]; exact hv
      have H0 := X0 mm h1 h2
      refine ⟨?_, fun hh B t hB hRT hUI => ?_⟩
      · rw [ord_e h2 hn (by omega) hv1 (by decide) 0]
        unfold ordT
        rw [if_neg (by decide), if_neg (by decide), if_pos rfl, b_eta, ob H0, if_neg (by decide), ob rfl, if_neg (by decide), ob rfl, if_neg (by decide), if_neg (by decide), if_neg (by decide), if_neg (by decide), ob rfl, if_neg (by decide), ob rfl, if_pos rfl]
      · have Y0 := number_e (pp := pp) (l := 116) (a := A0) (m := 1) (f := upd (f) 0 V0) (by decide) (j := 0) (by decide)
        have Y1 := number_e (pp := pp) (l := 116) (a := A0) (m := 1) (f := upd (f) 0 V0) (by decide) (j := 1) (by decide)
        have Y2 := number_e (pp := pp) (l := 116) (a := A0) (m := 1) (f := upd (f) 0 V0) (by decide) (j := 2) (by decide)
        have HC : f_X3_carryOutOrder t hh (QS pp 116 (A0) 1 (upd (f) 0 V0)) = f_X2_moveOn t V0 := co_t t hh Y0 Y1 Y2 rfl
        have HX : ∀ r u1, f_X4_passes mm.1 V0 = some (r, u1) → f_X4_order (PM mm a 0) 1 = some (r, M0 (PM mm (A0) 0) u1) := fun r u1 o2 => by
          rw [ord_e h2 hn (by omega) hv1 (by decide) 1]
          unfold ordT
          rw [if_neg (by decide), if_neg (by decide), if_pos rfl, b_eta, ob H0, if_neg (by decide), ob rfl, if_neg (by decide), ob rfl, if_neg (by decide), if_neg (by decide), if_neg (by decide), if_neg (by decide), ob rfl, if_neg (by decide), ob rfl, if_neg n10, if_neg (by decide), if_neg (by decide), if_neg (by decide), if_neg (by decide), if_neg (by decide), if_neg (by decide), if_neg (by decide), if_neg (by decide), if_neg (by decide), if_neg (by decide), if_neg (by decide), if_neg (by decide), if_neg (by decide), if_neg (by decide), if_pos rfl]
          show ((f_X4_passes mm.1 V0).bind fun x45 => some (x45.1, M0 (PM mm (A0) 0) x45.2)) = _
          rw [ob o2]
        obtain ⟨hS, np, nq, hN⟩ := hUI
        rcases op_pass hRT hS hN V0 with ⟨r, c1, c2, o1, o2⟩ | ⟨r, r1, t1, u1, d, c1, c2, o1, o2, o3, o4, o5, o6⟩
        · exact ⟨r, r, t, mm.1, HC.trans o1, HX r mm.1 o2, hRT.mono (Nat.le_succ B), ⟨hS, np, nq, hN⟩, Iff.rfl⟩
        · exact ⟨r, r1, t1, u1, HC.trans o1, HX r1 u1 o2, o5.mono (Nat.le_succ B), o6, ⟨fun e => absurd c1 e.1, fun e => absurd c2 e.1⟩⟩
  · refine Or.inr ⟨a + 1, 116, 0, f, by omega, ?_, fun mm h1 h2 => ?_⟩
    · rw [hro, run, ob R0, if_pos rfl]
    · have hv1 : Sg mm.2.2.2.2.2.2.1 n a = 116 := by rw [h1]; exact hv
      obtain ⟨W0, H0⟩ := X0 mm h1 h2
      rw [ord_e h2 hn (by omega) hv1 (by decide) 0]
      unfold ordT
      rw [if_neg (by decide), if_neg (by decide), if_pos rfl, b_eta, ob H0, if_neg (by decide), ob rfl, if_neg (by decide), ob rfl, if_neg (by decide), if_neg (by decide), if_neg (by decide), if_neg (by decide), ob rfl, if_neg (by decide), ob rfl, if_pos rfl]
theorem ord_o (hl : pp.2.1 = nI n) (hn : n ≤ 80) (hg : ∀ i, i < n → pp.1 i = g i) (ha : a < n) (es : Sg pp.1 n a = Sg g n a) (hv : Sg g n a = 111) : OB pp g n a (QW pp l a w f) := by
  have hro : f_X1_readOrder (QW pp l a w f) = run [100] (QS pp 111 (a + 1) 0 f) := by
    rw [readOrder_e hl hn (by omega) (i := 5) (es.trans hv) (by decide) (by decide +kernel), form_5]
  rcases dig_both (pp := pp) (l := 111) (m := 0) (f := f) (a := a + 1) hl hn hg (by omega) (by decide) with ⟨V0, B0, _, R0, X0⟩ | ⟨R0, X0⟩
  · refine Or.inl ⟨a + 2, 111, 1, upd (f) 0 V0, by omega, by omega, ?_, fun mm h1 h2 => ?_⟩
    · rw [hro, run, ob R0, if_neg n10, run]
    · have hv1 : Sg mm.2.2.2.2.2.2.1 n a = 111 := by rw [h1]; exact hv
      have H0 := X0 mm h1 h2
      refine ⟨?_, fun hh B t hB hRT hUI => ?_⟩
      · rw [ord_e h2 hn (by omega) hv1 (by decide) 0]
        unfold ordT
        rw [if_neg (by decide), if_neg (by decide), if_neg (by decide), b_eta, ob H0, if_neg (by decide), ob rfl, if_neg (by decide), ob rfl, if_neg (by decide), if_neg (by decide), if_neg (by decide), if_neg (by decide), ob rfl, if_neg (by decide), ob rfl, if_pos rfl]
      · have Y0 := number_e (pp := pp) (l := 111) (a := a + 2) (m := 1) (f := upd (f) 0 V0) (by decide) (j := 0) (by decide)
        have Y1 := number_e (pp := pp) (l := 111) (a := a + 2) (m := 1) (f := upd (f) 0 V0) (by decide) (j := 1) (by decide)
        have Y2 := number_e (pp := pp) (l := 111) (a := a + 2) (m := 1) (f := upd (f) 0 V0) (by decide) (j := 2) (by decide)
        have HC : f_X3_carryOutOrder t hh (QS pp 111 (a + 2) 1 (upd (f) 0 V0)) = f_X2_takeOath t V0 := co_o t hh Y0 Y1 Y2 rfl
        have HX : ∀ r u1, f_X4_swears mm.1 V0 = some (r, u1) → f_X4_order (PM mm a 0) 1 = some (r, M0 (PM mm (a + 2) 0) u1) := fun r u1 o2 => by
          rw [ord_e h2 hn (by omega) hv1 (by decide) 1]
          unfold ordT
          rw [if_neg (by decide), if_neg (by decide), if_neg (by decide), b_eta, ob H0, if_neg (by decide), ob rfl, if_neg (by decide), ob rfl, if_neg (by decide), if_neg (by decide), if_neg (by decide), if_neg (by decide), ob rfl, if_neg (by decide), ob rfl, if_neg n10, if_neg (by decide), if_neg (by decide), if_neg (by decide), if_neg (by decide), if_neg (by decide), if_neg (by decide), if_neg (by decide), if_neg (by decide), if_neg (by decide), if_pos rfl]
          show ((f_X4_swears mm.1 V0).bind fun x45 => some (x45.1, M0 (PM mm (a + 2) 0) x45.2)) = _
          rw [ob o2]
        obtain ⟨hS, np, nq, hN⟩ := hUI
        obtain ⟨r, t1, u1, o1, o2, o3, o4⟩ := op_swear hRT hB hS hN V0
        exact ⟨r, r, t1, u1, HC.trans o1, HX r u1 o2, o3, o4, Iff.rfl⟩
  · refine Or.inr ⟨a + 1, 111, 0, f, by omega, ?_, fun mm h1 h2 => ?_⟩
    · rw [hro, run, ob R0, if_pos rfl]
    · have hv1 : Sg mm.2.2.2.2.2.2.1 n a = 111 := by rw [h1]; exact hv
      obtain ⟨W0, H0⟩ := X0 mm h1 h2
      rw [ord_e h2 hn (by omega) hv1 (by decide) 0]
      unfold ordT
      rw [if_neg (by decide), if_neg (by decide), if_neg (by decide), b_eta, ob H0, if_neg (by decide), ob rfl, if_neg (by decide), ob rfl, if_neg (by decide), if_neg (by decide), if_neg (by decide), if_neg (by decide), ob rfl, if_neg (by decide), ob rfl, if_pos rfl]
theorem ord_a (hl : pp.2.1 = nI n) (hn : n ≤ 80) (hg : ∀ i, i < n → pp.1 i = g i) (ha : a < n) (es : Sg pp.1 n a = Sg g n a) (hv : Sg g n a = 97) : OB pp g n a (QW pp l a w f) := by
  have hro : f_X1_readOrder (QW pp l a w f) = run [100] (QS pp 97 (a + 1) 0 f) := by
    rw [readOrder_e hl hn (by omega) (i := 5) (es.trans hv) (by decide) (by decide +kernel), form_5]
  rcases dig_both (pp := pp) (l := 97) (m := 0) (f := f) (a := a + 1) hl hn hg (by omega) (by decide) with ⟨V0, B0, _, R0, X0⟩ | ⟨R0, X0⟩
  · refine Or.inl ⟨a + 2, 97, 1, upd (f) 0 V0, by omega, by omega, ?_, fun mm h1 h2 => ?_⟩
    · rw [hro, run, ob R0, if_neg n10, run]
    · have hv1 : Sg mm.2.2.2.2.2.2.1 n a = 97 := by rw [h1]; exact hv
      have H0 := X0 mm h1 h2
      refine ⟨?_, fun hh B t hB hRT hUI => ?_⟩
      · rw [ord_e h2 hn (by omega) hv1 (by decide) 0]
        unfold ordT
        rw [if_neg (by decide), if_neg (by decide), if_neg (by decide), b_eta, ob H0, if_neg (by decide), ob rfl, if_neg (by decide), ob rfl, if_neg (by decide), if_neg (by decide), if_neg (by decide), if_neg (by decide), ob rfl, if_neg (by decide), ob rfl, if_pos rfl]
      · have Y0 := number_e (pp := pp) (l := 97) (a := a + 2) (m := 1) (f := upd (f) 0 V0) (by decide) (j := 0) (by decide)
        have Y1 := number_e (pp := pp) (l := 97) (a := a + 2) (m := 1) (f := upd (f) 0 V0) (by decide) (j := 1) (by decide)
        have Y2 := number_e (pp := pp) (l := 97) (a := a + 2) (m := 1) (f := upd (f) 0 V0) (by decide) (j := 2) (by decide)
        have HC : f_X3_carryOutOrder t hh (QS pp 97 (a + 2) 1 (upd (f) 0 V0)) = f_X2_allowOrBar t V0 := co_a t hh Y0 Y1 Y2 rfl
        have HX : ∀ r u1, f_X4_turns mm.1 V0 = some (r, u1) → f_X4_order (PM mm a 0) 1 = some (r, M0 (PM mm (a + 2) 0) u1) := fun r u1 o2 => by
          rw [ord_e h2 hn (by omega) hv1 (by decide) 1]
          unfold ordT
          rw [if_neg (by decide), if_neg (by decide), if_neg (by decide), b_eta, ob H0, if_neg (by decide), ob rfl, if_neg (by decide), ob rfl, if_neg (by decide), if_neg (by decide), if_neg (by decide), if_neg (by decide), ob rfl, if_neg (by decide), ob rfl, if_neg n10, if_neg (by decide), if_neg (by decide), if_neg (by decide), if_neg (by decide), if_neg (by decide), if_neg (by decide), if_neg (by decide), if_neg (by decide), if_neg (by decide), if_neg (by decide), if_neg (by decide), if_neg (by decide), if_neg (by decide), if_neg (by decide), if_neg (by decide), if_neg (by decide), if_neg (by decide), if_neg (by decide)]
          show ((f_X4_turns mm.1 V0).bind fun x45 => some (x45.1, M0 (PM mm (a + 2) 0) x45.2)) = _
          rw [ob o2]
        obtain ⟨hS, np, nq, hN⟩ := hUI
        obtain ⟨r, t1, u1, o1, o2, o3, o4⟩ := wk (Nat.le_succ B) (op_allow hRT hS hN V0)
        exact ⟨r, r, t1, u1, HC.trans o1, HX r u1 o2, o3, o4, Iff.rfl⟩
  · refine Or.inr ⟨a + 1, 97, 0, f, by omega, ?_, fun mm h1 h2 => ?_⟩
    · rw [hro, run, ob R0, if_pos rfl]
    · have hv1 : Sg mm.2.2.2.2.2.2.1 n a = 97 := by rw [h1]; exact hv
      obtain ⟨W0, H0⟩ := X0 mm h1 h2
      rw [ord_e h2 hn (by omega) hv1 (by decide) 0]
      unfold ordT
      rw [if_neg (by decide), if_neg (by decide), if_neg (by decide), b_eta, ob H0, if_neg (by decide), ob rfl, if_neg (by decide), ob rfl, if_neg (by decide), if_neg (by decide), if_neg (by decide), if_neg (by decide), ob rfl, if_neg (by decide), ob rfl, if_pos rfl]
theorem ord_p (hl : pp.2.1 = nI n) (hn : n ≤ 80) (hg : ∀ i, i < n → pp.1 i = g i) (ha : a < n) (es : Sg pp.1 n a = Sg g n a) (hv : Sg g n a = 112) : OB pp g n a (QW pp l a w f) := by
  have hro : f_X1_readOrder (QW pp l a w f) = run [100, 100] (QS pp 112 (a + 1) 0 f) := by
    rw [readOrder_e hl hn (by omega) (i := 0) (es.trans hv) (by decide) (by decide +kernel), form_0]
  rcases dig_both (pp := pp) (l := 112) (m := 0) (f := f) (a := a + 1) hl hn hg (by omega) (by decide) with ⟨V0, B0, _, R0, X0⟩ | ⟨R0, X0⟩
  · rcases dig_both (pp := pp) (l := 112) (m := 1) (f := upd (f) 0 V0) (a := a + 2) hl hn hg (by omega) (by decide) with ⟨V1, B1, _, R1, X1⟩ | ⟨R1, X1⟩
    · refine Or.inl ⟨a + 3, 112, 2, upd (upd (f) 0 V0) 1 V1, by omega, by omega, ?_, fun mm h1 h2 => ?_⟩
      · rw [hro, run, ob R0, if_neg n10, run, ob R1, if_neg n10, run]
      · have hv1 : Sg mm.2.2.2.2.2.2.1 n a = 112 := by rw [h1]; exact hv
        have H0 := X0 mm h1 h2
        have H1 := X1 mm h1 h2
        refine ⟨?_, fun hh B t hB hRT hUI => ?_⟩
        · rw [ord_e h2 hn (by omega) hv1 (by decide) 0]
          unfold ordT
          rw [if_neg (by decide), if_neg (by decide), if_neg (by decide), b_eta, ob H0, if_neg (by decide), ob rfl, if_neg (by decide), ob rfl, if_pos rfl, b_eta, ob H1, if_neg (by decide), ob rfl, if_pos rfl]
        · have Y0 := number_e (pp := pp) (l := 112) (a := a + 3) (m := 2) (f := upd (upd (f) 0 V0) 1 V1) (by decide) (j := 0) (by decide)
          have Y1 := number_e (pp := pp) (l := 112) (a := a + 3) (m := 2) (f := upd (upd (f) 0 V0) 1 V1) (by decide) (j := 1) (by decide)
          have Y2 := number_e (pp := pp) (l := 112) (a := a + 3) (m := 2) (f := upd (upd (f) 0 V0) 1 V1) (by decide) (j := 2) (by decide)
          have HC : f_X3_carryOutOrder t hh (QS pp 112 (a + 3) 2 (upd (upd (f) 0 V0) 1 V1)) = f_X2_addPerson t V0 V1 := co_p t hh Y0 Y1 Y2 rfl
          have HX : ∀ r u1, f_X4_comes mm.1 V0 V1 = some (r, u1) → f_X4_order (PM mm a 0) 1 = some (r, M0 (PM mm (a + 3) 0) u1) := fun r u1 o2 => by
            rw [ord_e h2 hn (by omega) hv1 (by decide) 1]
            unfold ordT
            rw [if_neg (by decide), if_neg (by decide), if_neg (by decide), b_eta, ob H0, if_neg (by decide), ob rfl, if_neg (by decide), ob rfl, if_pos rfl, b_eta, ob H1, if_neg (by decide), ob rfl, if_neg n10, if_neg (by decide), if_neg (by decide), if_neg (by decide), if_neg (by decide), if_neg (by decide), if_neg (by decide), if_neg (by decide), if_neg (by decide), if_neg (by decide), if_neg (by decide), if_pos rfl]
            show ((f_X4_comes mm.1 V0 V1).bind fun x45 => some (x45.1, M0 (PM mm (a + 3) 0) x45.2)) = _
            rw [ob o2]
          obtain ⟨hS, np, nq, hN⟩ := hUI
          obtain ⟨r, t1, u1, o1, o2, o3, o4⟩ := wk (Nat.le_succ B) (op_person hRT hS hN V0 V1)
          exact ⟨r, r, t1, u1, HC.trans o1, HX r u1 o2, o3, o4, Iff.rfl⟩
    · refine Or.inr ⟨a + 2, 112, 1, upd (f) 0 V0, by omega, ?_, fun mm h1 h2 => ?_⟩
      · rw [hro, run, ob R0, if_neg n10, run, ob R1, if_pos rfl]
      · have hv1 : Sg mm.2.2.2.2.2.2.1 n a = 112 := by rw [h1]; exact hv
        have H0 := X0 mm h1 h2
        obtain ⟨W1, H1⟩ := X1 mm h1 h2
        rw [ord_e h2 hn (by omega) hv1 (by decide) 0]
        unfold ordT
        rw [if_neg (by decide), if_neg (by decide), if_neg (by decide), b_eta, ob H0, if_neg (by decide), ob rfl, if_neg (by decide), ob rfl, if_pos rfl, b_eta, ob H1, if_neg (by decide), ob rfl, if_pos rfl]
  · refine Or.inr ⟨a + 1, 112, 0, f, by omega, ?_, fun mm h1 h2 => ?_⟩
    · rw [hro, run, ob R0, if_pos rfl]
    · have hv1 : Sg mm.2.2.2.2.2.2.1 n a = 112 := by rw [h1]; exact hv
      obtain ⟨W0, H0⟩ := X0 mm h1 h2
      obtain ⟨W1, H1⟩ := digit_1 (mm := mm) (a := a + 1) h2 hn (by omega)
      rw [ord_e h2 hn (by omega) hv1 (by decide) 0]
      unfold ordT
      rw [if_neg (by decide), if_neg (by decide), if_neg (by decide), b_eta, ob H0, if_neg (by decide), ob rfl, if_neg (by decide), ob rfl, if_pos rfl, b_eta, ob H1, if_neg (by decide), ob rfl, if_pos rfl]
theorem ord_s (hl : pp.2.1 = nI n) (hn : n ≤ 80) (hg : ∀ i, i < n → pp.1 i = g i) (ha : a < n) (es : Sg pp.1 n a = Sg g n a) (hv : Sg g n a = 115) : OB pp g n a (QW pp l a w f) := by
  have hro : f_X1_readOrder (QW pp l a w f) = run [100, 62, 100] (QS pp 115 (a + 1) 0 f) := by
    rw [readOrder_e hl hn (by omega) (i := 1) (es.trans hv) (by decide) (by decide +kernel), form_1]
  rcases dig_both (pp := pp) (l := 115) (m := 0) (f := f) (a := a + 1) hl hn hg (by omega) (by decide) with ⟨V0, B0, _, R0, X0⟩ | ⟨R0, X0⟩
  · rcases sig_both (pp := pp) (l := 115) (m := 1) (f := upd (f) 0 V0) (a := a + 2) (z := 62) hl hn hg (by omega) (by decide) (by decide) (by decide) with ⟨B1, R1, X1⟩ | ⟨R1, X1⟩
    · rcases dig_both (pp := pp) (l := 115) (m := 1) (f := upd (f) 0 V0) (a := a + 3) hl hn hg (by omega) (by decide) with ⟨V2, B2, _, R2, X2⟩ | ⟨R2, X2⟩
      · refine Or.inl ⟨a + 4, 115, 2, upd (upd (f) 0 V0) 1 V2, by omega, by omega, ?_, fun mm h1 h2 => ?_⟩
        · rw [hro, run, ob R0, if_neg n10, run, ob R1, if_neg n10, run, ob R2, if_neg n10, run]
        · have hv1 : Sg mm.2.2.2.2.2.2.1 n a = 115 := by rw [h1]; exact hv
          have H0 := X0 mm h1 h2
          obtain ⟨W1, H1⟩ := X1 mm h1 h2
          have H2 := X2 mm h1 h2
          refine ⟨?_, fun hh B t hB hRT hUI => ?_⟩
          · rw [ord_e h2 hn (by omega) hv1 (by decide) 0]
            unfold ordT
            rw [if_neg (by decide), if_neg (by decide), if_neg (by decide), b_eta, ob H0, if_pos rfl, ob H1, ob rfl, if_neg (by decide), ob rfl, if_neg (by decide), if_pos rfl, b_eta, ob H2, if_neg (by decide), ob rfl, if_pos rfl]
          · have Y0 := number_e (pp := pp) (l := 115) (a := a + 4) (m := 2) (f := upd (upd (f) 0 V0) 1 V2) (by decide) (j := 0) (by decide)
            have Y1 := number_e (pp := pp) (l := 115) (a := a + 4) (m := 2) (f := upd (upd (f) 0 V0) 1 V2) (by decide) (j := 1) (by decide)
            have Y2 := number_e (pp := pp) (l := 115) (a := a + 4) (m := 2) (f := upd (upd (f) 0 V0) 1 V2) (by decide) (j := 2) (by decide)
            have HC : f_X3_carryOutOrder t hh (QS pp 115 (a + 4) 2 (upd (upd (f) 0 V0) 1 V2)) = f_X2_takeSecond t V0 V2 := co_s t hh Y0 Y1 Y2 rfl
            have HX : ∀ r u1, f_X4_takes mm.1 V0 V2 = some (r, u1) → f_X4_order (PM mm a 0) 1 = some (r, M0 (PM mm (a + 4) 0) u1) := fun r u1 o2 => by
              rw [ord_e h2 hn (by omega) hv1 (by decide) 1]
              unfold ordT
              rw [if_neg (by decide), if_neg (by decide), if_neg (by decide), b_eta, ob H0, if_pos rfl, ob H1, ob rfl, if_neg (by decide), ob rfl, if_neg (by decide), if_pos rfl, b_eta, ob H2, if_neg (by decide), ob rfl, if_neg n10, if_neg (by decide), if_neg (by decide), if_neg (by decide), if_neg (by decide), if_neg (by decide), if_neg (by decide), if_neg (by decide), if_neg (by decide), if_neg (by decide), if_neg (by decide), if_neg (by decide), if_neg (by decide), if_neg (by decide), if_pos rfl]
              show ((f_X4_takes mm.1 V0 V2).bind fun x45 => some (x45.1, M0 (PM mm (a + 4) 0) x45.2)) = _
              rw [ob o2]
            obtain ⟨hS, np, nq, hN⟩ := hUI
            obtain ⟨r, t1, u1, o1, o2, o3, o4⟩ := wk (Nat.le_succ B) (op_second hRT hS hN V0 V2)
            exact ⟨r, r, t1, u1, HC.trans o1, HX r u1 o2, o3, o4, Iff.rfl⟩
      · refine Or.inr ⟨a + 3, 115, 1, upd (f) 0 V0, by omega, ?_, fun mm h1 h2 => ?_⟩
        · rw [hro, run, ob R0, if_neg n10, run, ob R1, if_neg n10, run, ob R2, if_pos rfl]
        · have hv1 : Sg mm.2.2.2.2.2.2.1 n a = 115 := by rw [h1]; exact hv
          have H0 := X0 mm h1 h2
          obtain ⟨W1, H1⟩ := X1 mm h1 h2
          obtain ⟨W2, H2⟩ := X2 mm h1 h2
          rw [ord_e h2 hn (by omega) hv1 (by decide) 0]
          unfold ordT
          rw [if_neg (by decide), if_neg (by decide), if_neg (by decide), b_eta, ob H0, if_pos rfl, ob H1, ob rfl, if_neg (by decide), ob rfl, if_neg (by decide), if_pos rfl, b_eta, ob H2, if_neg (by decide), ob rfl, if_pos rfl]
    · refine Or.inr ⟨a + 2, 115, 1, upd (f) 0 V0, by omega, ?_, fun mm h1 h2 => ?_⟩
      · rw [hro, run, ob R0, if_neg n10, run, ob R1, if_pos rfl]
      · have hv1 : Sg mm.2.2.2.2.2.2.1 n a = 115 := by rw [h1]; exact hv
        have H0 := X0 mm h1 h2
        obtain ⟨W1, H1⟩ := X1 mm h1 h2
        obtain ⟨W2, H2⟩ := digit_1 (mm := mm) (a := a + 2) h2 hn (by omega)
        rw [ord_e h2 hn (by omega) hv1 (by decide) 0]
        unfold ordT
        rw [if_neg (by decide), if_neg (by decide), if_neg (by decide), b_eta, ob H0, if_pos rfl, ob H1, ob rfl, if_neg (by decide), ob rfl, if_neg (by decide), if_pos rfl, b_eta, ob H2, if_neg (by decide), ob rfl, if_pos rfl]
  · refine Or.inr ⟨a + 1, 115, 0, f, by omega, ?_, fun mm h1 h2 => ?_⟩
    · rw [hro, run, ob R0, if_pos rfl]
    · have hv1 : Sg mm.2.2.2.2.2.2.1 n a = 115 := by rw [h1]; exact hv
      obtain ⟨W0, H0⟩ := X0 mm h1 h2
      obtain ⟨W1, H1⟩ := sign_1 (mm := mm) (a := a + 1) h2 hn (by omega) 62 62
      obtain ⟨W2, H2⟩ := digit_1 (mm := mm) (a := a + 1) h2 hn (by omega)
      rw [ord_e h2 hn (by omega) hv1 (by decide) 0]
      unfold ordT
      rw [if_neg (by decide), if_neg (by decide), if_neg (by decide), b_eta, ob H0, if_pos rfl, ob H1, ob rfl, if_neg (by decide), ob rfl, if_neg (by decide), if_pos rfl, b_eta, ob H2, if_neg (by decide), ob rfl, if_pos rfl]
theorem ord_w (hl : pp.2.1 = nI n) (hn : n ≤ 80) (hg : ∀ i, i < n → pp.1 i = g i) (ha : a < n) (es : Sg pp.1 n a = Sg g n a) (hv : Sg g n a = 119) : OB pp g n a (QW pp l a w f) := by
  have hro : f_X1_readOrder (QW pp l a w f) = run [110, 46, 100] (QS pp 119 (a + 1) 0 f) := by
    rw [readOrder_e hl hn (by omega) (i := 3) (es.trans hv) (by decide) (by decide +kernel), form_3]
  rcases num_both (pp := pp) (l := 119) (m := 0) (f := f) (a := a + 1) hl hn hg (by omega) (by decide) with ⟨V0, A0, B0, C0, R0, X0⟩ | ⟨R0, X0⟩
  · rcases sig_both (pp := pp) (l := 119) (m := 1) (f := upd (f) 0 V0) (a := A0) (z := 46) hl hn hg (by omega) (by decide) (by decide) (by decide) with ⟨B1, R1, X1⟩ | ⟨R1, X1⟩
    · rcases dig_both (pp := pp) (l := 119) (m := 1) (f := upd (f) 0 V0) (a := A0 + 1) hl hn hg (by omega) (by decide) with ⟨V2, B2, _, R2, X2⟩ | ⟨R2, X2⟩
      · refine Or.inl ⟨A0 + 2, 119, 2, upd (upd (f) 0 V0) 1 V2, by omega, by omega, ?_, fun mm h1 h2 => ?_⟩
        · rw [hro, run, ob R0, if_neg n10, run, ob R1, if_neg n10, run, ob R2, if_neg n10, run]
        · have hv1 : Sg mm.2.2.2.2.2.2.1 n a = 119 := by rw [h1]; exact hv
          have H0 := X0 mm h1 h2
          obtain ⟨W1, H1⟩ := X1 mm h1 h2
          have H2 := X2 mm h1 h2
          refine ⟨?_, fun hh B t hB hRT hUI => ?_⟩
          · rw [ord_e h2 hn (by omega) hv1 (by decide) 0]
            unfold ordT
            rw [if_pos rfl, b_eta, ob H0, if_neg (by decide), ob rfl, if_pos rfl, ob H1, ob rfl, if_neg (by decide), if_neg (by decide), if_neg (by decide), if_pos rfl, b_eta, ob H2, if_neg (by decide), ob rfl, if_pos rfl]
          · have Y0 := number_e (pp := pp) (l := 119) (a := A0 + 2) (m := 2) (f := upd (upd (f) 0 V0) 1 V2) (by decide) (j := 0) (by decide)
            have Y1 := number_e (pp := pp) (l := 119) (a := A0 + 2) (m := 2) (f := upd (upd (f) 0 V0) 1 V2) (by decide) (j := 1) (by decide)
            have Y2 := number_e (pp := pp) (l := 119) (a := A0 + 2) (m := 2) (f := upd (upd (f) 0 V0) 1 V2) (by decide) (j := 2) (by decide)
            have HC : f_X3_carryOutOrder t hh (QS pp 119 (A0 + 2) 2 (upd (upd (f) 0 V0) 1 V2)) = f_X2_settleBy t V0 V2 := co_w t hh Y0 Y1 Y2 rfl
            have HX : ∀ r u1, f_X4_settles mm.1 V0 V2 = some (r, u1) → f_X4_order (PM mm a 0) 1 = some (r, M0 (PM mm (A0 + 2) 0) u1) := fun r u1 o2 => by
              rw [ord_e h2 hn (by omega) hv1 (by decide) 1]
              unfold ordT
              rw [if_pos rfl, b_eta, ob H0, if_neg (by decide), ob rfl, if_pos rfl, ob H1, ob rfl, if_neg (by decide), if_neg (by decide), if_neg (by decide), if_pos rfl, b_eta, ob H2, if_neg (by decide), ob rfl, if_neg n10, if_neg (by decide), if_neg (by decide), if_neg (by decide), if_neg (by decide), if_neg (by decide), if_neg (by decide), if_neg (by decide), if_neg (by decide), if_neg (by decide), if_neg (by decide), if_neg (by decide), if_neg (by decide), if_neg (by decide), if_neg (by decide), if_neg (by decide), if_neg (by decide), if_neg (by decide), if_pos rfl]
              show ((f_X4_settles mm.1 V0 V2).bind fun x45 => some (x45.1, M0 (PM mm (A0 + 2) 0) x45.2)) = _
              rw [ob o2]
            obtain ⟨hS, np, nq, hN⟩ := hUI
            obtain ⟨r, t1, u1, o1, o2, o3, o4⟩ := op_settle hRT hB hS hN V0 V2
            exact ⟨r, r, t1, u1, HC.trans o1, HX r u1 o2, o3, o4, Iff.rfl⟩
      · refine Or.inr ⟨A0 + 1, 119, 1, upd (f) 0 V0, by omega, ?_, fun mm h1 h2 => ?_⟩
        · rw [hro, run, ob R0, if_neg n10, run, ob R1, if_neg n10, run, ob R2, if_pos rfl]
        · have hv1 : Sg mm.2.2.2.2.2.2.1 n a = 119 := by rw [h1]; exact hv
          have H0 := X0 mm h1 h2
          obtain ⟨W1, H1⟩ := X1 mm h1 h2
          obtain ⟨W2, H2⟩ := X2 mm h1 h2
          rw [ord_e h2 hn (by omega) hv1 (by decide) 0]
          unfold ordT
          rw [if_pos rfl, b_eta, ob H0, if_neg (by decide), ob rfl, if_pos rfl, ob H1, ob rfl, if_neg (by decide), if_neg (by decide), if_neg (by decide), if_pos rfl, b_eta, ob H2, if_neg (by decide), ob rfl, if_pos rfl]
    · refine Or.inr ⟨A0, 119, 1, upd (f) 0 V0, by omega, ?_, fun mm h1 h2 => ?_⟩
      · rw [hro, run, ob R0, if_neg n10, run, ob R1, if_pos rfl]
      · have hv1 : Sg mm.2.2.2.2.2.2.1 n a = 119 := by rw [h1]; exact hv
        have H0 := X0 mm h1 h2
        obtain ⟨W1, H1⟩ := X1 mm h1 h2
        obtain ⟨W2, H2⟩ := digit_1 (mm := mm) (a := A0) h2 hn (by omega)
        rw [ord_e h2 hn (by omega) hv1 (by decide) 0]
        unfold ordT
        rw [if_pos rfl, b_eta, ob H0, if_neg (by decide), ob rfl, if_pos rfl, ob H1, ob rfl, if_neg (by decide), if_neg (by decide), if_neg (by decide), if_pos rfl, b_eta, ob H2, if_neg (by decide), ob rfl, if_pos rfl]
  · refine Or.inr ⟨a + 1, 119, 0, f, by omega, ?_, fun mm h1 h2 => ?_⟩
    · rw [hro, run, ob R0, if_pos rfl]
    · have hv1 : Sg mm.2.2.2.2.2.2.1 n a = 119 := by rw [h1]; exact hv
      obtain ⟨W0, H0⟩ := X0 mm h1 h2
      obtain ⟨W1, H1⟩ := sign_1 (mm := mm) (a := a + 1) h2 hn (by omega) 46 46
      obtain ⟨W2, H2⟩ := digit_1 (mm := mm) (a := a + 1) h2 hn (by omega)
      rw [ord_e h2 hn (by omega) hv1 (by decide) 0]
      unfold ordT
      rw [if_pos rfl, b_eta, ob H0, if_neg (by decide), ob rfl, if_pos rfl, ob H1, ob rfl, if_neg (by decide), if_neg (by decide), if_neg (by decide), if_pos rfl, b_eta, ob H2, if_neg (by decide), ob rfl, if_pos rfl]
theorem ord_i (hl : pp.2.1 = nI n) (hn : n ≤ 80) (hg : ∀ i, i < n → pp.1 i = g i) (ha : a < n) (es : Sg pp.1 n a = Sg g n a) (hv : Sg g n a = 105) : OB pp g n a (QW pp l a w f) := by
  have hro : f_X1_readOrder (QW pp l a w f) = run [100, 100, 47, 100] (QS pp 105 (a + 1) 0 f) := by
    rw [readOrder_e hl hn (by omega) (i := 2) (es.trans hv) (by decide) (by decide +kernel), form_2]
  rcases dig_both (pp := pp) (l := 105) (m := 0) (f := f) (a := a + 1) hl hn hg (by omega) (by decide) with ⟨V0, B0, _, R0, X0⟩ | ⟨R0, X0⟩
  · rcases dig_both (pp := pp) (l := 105) (m := 1) (f := upd (f) 0 V0) (a := a + 2) hl hn hg (by omega) (by decide) with ⟨V1, B1, _, R1, X1⟩ | ⟨R1, X1⟩
    · rcases sig_both (pp := pp) (l := 105) (m := 2) (f := upd (upd (f) 0 V0) 1 V1) (a := a + 3) (z := 47) hl hn hg (by omega) (by decide) (by decide) (by decide) with ⟨B2, R2, X2⟩ | ⟨R2, X2⟩
      · rcases dig_both (pp := pp) (l := 105) (m := 2) (f := upd (upd (f) 0 V0) 1 V1) (a := a + 4) hl hn hg (by omega) (by decide) with ⟨V3, B3, _, R3, X3⟩ | ⟨R3, X3⟩
        · refine Or.inl ⟨a + 5, 105, 3, upd (upd (upd (f) 0 V0) 1 V1) 2 V3, by omega, by omega, ?_, fun mm h1 h2 => ?_⟩
          · rw [hro, run, ob R0, if_neg n10, run, ob R1, if_neg n10, run, ob R2, if_neg n10, run, ob R3, if_neg n10, run]
          · have hv1 : Sg mm.2.2.2.2.2.2.1 n a = 105 := by rw [h1]; exact hv
            have H0 := X0 mm h1 h2
            have H1 := X1 mm h1 h2
            obtain ⟨W2, H2⟩ := X2 mm h1 h2
            have H3 := X3 mm h1 h2
            refine ⟨?_, fun hh B t hB hRT hUI => ?_⟩
            · rw [ord_e h2 hn (by omega) hv1 (by decide) 0]
              unfold ordT
              rw [if_neg (by decide), if_neg (by decide), if_neg (by decide), b_eta, ob H0, if_neg (by decide), ob rfl, if_neg (by decide), ob rfl, if_neg (by decide), if_neg (by decide), if_pos rfl, b_eta, ob H1, if_pos rfl, ob H2, b_eta, ob H3, if_pos rfl]
            · have Y0 := number_e (pp := pp) (l := 105) (a := a + 5) (m := 3) (f := upd (upd (upd (f) 0 V0) 1 V1) 2 V3) (by decide) (j := 0) (by decide)
              have Y1 := number_e (pp := pp) (l := 105) (a := a + 5) (m := 3) (f := upd (upd (upd (f) 0 V0) 1 V1) 2 V3) (by decide) (j := 1) (by decide)
              have Y2 := number_e (pp := pp) (l := 105) (a := a + 5) (m := 3) (f := upd (upd (upd (f) 0 V0) 1 V1) 2 V3) (by decide) (j := 2) (by decide)
              have HC : f_X3_carryOutOrder t hh (QS pp 105 (a + 5) 3 (upd (upd (upd (f) 0 V0) 1 V1) 2 V3)) = f_X2_addQuarrel t V0 V1 V3 := co_i t hh Y0 Y1 Y2 rfl
              have HX : ∀ r u1, f_X4_offends mm.1 V0 V1 V3 = some (r, u1) → f_X4_order (PM mm a 0) 1 = some (r, M0 (PM mm (a + 5) 0) u1) := fun r u1 o2 => by
                rw [ord_e h2 hn (by omega) hv1 (by decide) 1]
                unfold ordT
                rw [if_neg (by decide), if_neg (by decide), if_neg (by decide), b_eta, ob H0, if_neg (by decide), ob rfl, if_neg (by decide), ob rfl, if_neg (by decide), if_neg (by decide), if_pos rfl, b_eta, ob H1, if_pos rfl, ob H2, b_eta, ob H3, if_neg n10, if_neg (by decide), if_neg (by decide), if_neg (by decide), if_pos rfl]
                show ((f_X4_offends mm.1 V0 V1 V3).bind fun x45 => some (x45.1, M0 (PM mm (a + 5) 0) x45.2)) = _
                rw [ob o2]
              obtain ⟨hS, np, nq, hN⟩ := hUI
              obtain ⟨r, t1, u1, o1, o2, o3, o4⟩ := op_insult hRT hB hS hN V0 V1 V3
              exact ⟨r, r, t1, u1, HC.trans o1, HX r u1 o2, o3, o4, Iff.rfl⟩
        · refine Or.inr ⟨a + 4, 105, 2, upd (upd (f) 0 V0) 1 V1, by omega, ?_, fun mm h1 h2 => ?_⟩
          · rw [hro, run, ob R0, if_neg n10, run, ob R1, if_neg n10, run, ob R2, if_neg n10, run, ob R3, if_pos rfl]
          · have hv1 : Sg mm.2.2.2.2.2.2.1 n a = 105 := by rw [h1]; exact hv
            have H0 := X0 mm h1 h2
            have H1 := X1 mm h1 h2
            obtain ⟨W2, H2⟩ := X2 mm h1 h2
            obtain ⟨W3, H3⟩ := X3 mm h1 h2
            rw [ord_e h2 hn (by omega) hv1 (by decide) 0]
            unfold ordT
            rw [if_neg (by decide), if_neg (by decide), if_neg (by decide), b_eta, ob H0, if_neg (by decide), ob rfl, if_neg (by decide), ob rfl, if_neg (by decide), if_neg (by decide), if_pos rfl, b_eta, ob H1, if_pos rfl, ob H2, b_eta, ob H3, if_pos rfl]
      · refine Or.inr ⟨a + 3, 105, 2, upd (upd (f) 0 V0) 1 V1, by omega, ?_, fun mm h1 h2 => ?_⟩
        · rw [hro, run, ob R0, if_neg n10, run, ob R1, if_neg n10, run, ob R2, if_pos rfl]
        · have hv1 : Sg mm.2.2.2.2.2.2.1 n a = 105 := by rw [h1]; exact hv
          have H0 := X0 mm h1 h2
          have H1 := X1 mm h1 h2
          obtain ⟨W2, H2⟩ := X2 mm h1 h2
          obtain ⟨W3, H3⟩ := digit_1 (mm := mm) (a := a + 3) h2 hn (by omega)
          rw [ord_e h2 hn (by omega) hv1 (by decide) 0]
          unfold ordT
          rw [if_neg (by decide), if_neg (by decide), if_neg (by decide), b_eta, ob H0, if_neg (by decide), ob rfl, if_neg (by decide), ob rfl, if_neg (by decide), if_neg (by decide), if_pos rfl, b_eta, ob H1, if_pos rfl, ob H2, b_eta, ob H3, if_pos rfl]
    · refine Or.inr ⟨a + 2, 105, 1, upd (f) 0 V0, by omega, ?_, fun mm h1 h2 => ?_⟩
      · rw [hro, run, ob R0, if_neg n10, run, ob R1, if_pos rfl]
      · have hv1 : Sg mm.2.2.2.2.2.2.1 n a = 105 := by rw [h1]; exact hv
        have H0 := X0 mm h1 h2
        obtain ⟨W1, H1⟩ := X1 mm h1 h2
        obtain ⟨W2, H2⟩ := sign_1 (mm := mm) (a := a + 2) h2 hn (by omega) 47 47
        obtain ⟨W3, H3⟩ := digit_1 (mm := mm) (a := a + 2) h2 hn (by omega)
        rw [ord_e h2 hn (by omega) hv1 (by decide) 0]
        unfold ordT
        rw [if_neg (by decide), if_neg (by decide), if_neg (by decide), b_eta, ob H0, if_neg (by decide), ob rfl, if_neg (by decide), ob rfl, if_neg (by decide), if_neg (by decide), if_pos rfl, b_eta, ob H1, if_pos rfl, ob H2, b_eta, ob H3, if_pos rfl]
  · refine Or.inr ⟨a + 1, 105, 0, f, by omega, ?_, fun mm h1 h2 => ?_⟩
    · rw [hro, run, ob R0, if_pos rfl]
    · have hv1 : Sg mm.2.2.2.2.2.2.1 n a = 105 := by rw [h1]; exact hv
      obtain ⟨W0, H0⟩ := X0 mm h1 h2
      obtain ⟨W1, H1⟩ := digit_1 (mm := mm) (a := a + 1) h2 hn (by omega)
      obtain ⟨W2, H2⟩ := sign_1 (mm := mm) (a := a + 1) h2 hn (by omega) 47 47
      obtain ⟨W3, H3⟩ := digit_1 (mm := mm) (a := a + 1) h2 hn (by omega)
      rw [ord_e h2 hn (by omega) hv1 (by decide) 0]
      unfold ordT
      rw [if_neg (by decide), if_neg (by decide), if_neg (by decide), b_eta, ob H0, if_neg (by decide), ob rfl, if_neg (by decide), ob rfl, if_neg (by decide), if_neg (by decide), if_pos rfl, b_eta, ob H1, if_pos rfl, ob H2, b_eta, ob H3, if_pos rfl]
theorem order_both (hl : pp.2.1 = nI n) (hn : n ≤ 80) (hg : ∀ i, i < n → pp.1 i = g i) (ha : a ≤ n) : OB pp g n a (QW pp l a w f) := by
  have es : Sg pp.1 n a = Sg g n a := by
    unfold Sg
    by_cases c : a < n
    · rw [if_pos c, if_pos c]; exact hg a c
    · rw [if_neg c, if_neg c]
  by_cases hb : Sg g n a = 112 ∨ Sg g n a = 115 ∨ Sg g n a = 105 ∨ Sg g n a = 119 ∨ Sg g n a = 102 ∨ Sg g n a = 111 ∨ Sg g n a = 116 ∨ Sg g n a = 97
  · have hlt : a < n := Classical.byContradiction (fun d => by
      unfold Sg at hb
      rw [if_neg d] at hb
      exact absurd hb (by decide))
    rcases hb with hv | hv | hv | hv | hv | hv | hv | hv
    · exact ord_p hl hn hg hlt es hv
    · exact ord_s hl hn hg hlt es hv
    · exact ord_i hl hn hg hlt es hv
    · exact ord_w hl hn hg hlt es hv
    · exact ord_f hl hn hg hlt es hv
    · exact ord_o hl hn hg hlt es hv
    · exact ord_t hl hn hg hlt es hv
    · exact ord_a hl hn hg hlt es hv
  · refine Or.inr ⟨a, Sg pp.1 n a, 0, f, ha, ?_, fun mm h1 h2 => ?_⟩
    · exact readOrder_6 hl hn (by omega) (formOf_6 (by rw [es]; exact hb))
    · subst h1
      exact ord_bad h2 hn (by omega) rfl hb
end PV

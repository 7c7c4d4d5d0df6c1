/-! settle, fight, swear, pass, set -/
abbrev Bk3 (z : Nat → Int32) (k : Nat) (w v : Int32) : Nat → Int32 := upd (upd (upd z (48 + 8 * k + 4) 1) (48 + 8 * k + 5) w) (48 + 8 * k + 7) v
theorem chg_B3 {u : Nat → Int32} {x f k : Nat} {w v b : Int32} (hx : x < 10) (hf : f < 4) : chg (Bk3 u k w v) x f b = Bk3 (chg u x f b) k w v := by
  show upd (upd (upd (upd u (48 + 8 * k + 4) 1) (48 + 8 * k + 5) w) (48 + 8 * k + 7) v) (6 + 4 * x + f) (cl (upd (upd (upd u (48 + 8 * k + 4) 1) (48 + 8 * k + 5) w) (48 + 8 * k + 7) v (6 + 4 * x + f) + b)) = _
  rw [pk_un (j := 6 + 4 * x + f) (by omega), pk_un (j := 6 + 4 * x + f) (by omega), pk_un (j := 6 + 4 * x + f) (by omega), upd_comm (a := 48 + 8 * k + 7) (b := 6 + 4 * x + f) (by omega), upd_comm (a := 48 + 8 * k + 5) (b := 6 + 4 * x + f) (by omega), upd_comm (a := 48 + 8 * k + 4) (b := 6 + 4 * x + f) (by omega)]
abbrev Bk2 (z : Nat → Int32) (k : Nat) (v : Int32) : Nat → Int32 := upd (upd z (48 + 8 * k + 4) 2) (48 + 8 * k + 6) v
theorem chg_B2 {u : Nat → Int32} {x f k : Nat} {v b : Int32} (hx : x < 10) (hf : f < 4) : chg (Bk2 u k v) x f b = Bk2 (chg u x f b) k v := by
  show upd (upd (upd u (48 + 8 * k + 4) 2) (48 + 8 * k + 6) v) (6 + 4 * x + f) (cl (upd (upd u (48 + 8 * k + 4) 2) (48 + 8 * k + 6) v (6 + 4 * x + f) + b)) = _
  rw [pk_un (j := 6 + 4 * x + f) (by omega), pk_un (j := 6 + 4 * x + f) (by omega), upd_comm (a := 48 + 8 * k + 6) (b := 6 + 4 * x + f) (by omega), upd_comm (a := 48 + 8 * k + 4) (b := 6 + 4 * x + f) (by omega)]
theorem ov_u {u : Nat → Int32} {n x : Nat} {v : Int32} (h4 : n ≠ 4) (h2 : n ≠ 2) (hn : n ≠ 6 + 4 * x + 3) : ov (upd u n v) x = ov u x := by
  show (if upd u n v 4 + upd u n v 2 ≤ upd u n v (6 + 4 * x + 3) then upd u n v (6 + 4 * x + 3) else upd u n v 4 + upd u n v 2) = _
  rw [pk_un (Ne.symm h4), pk_un (Ne.symm h2), pk_un (Ne.symm hn)]
theorem oth_u {u : Nat → Int32} {n x : Nat} {v : Int32} (h4 : n ≠ 4) (h2 : n ≠ 2) (hn : n ≠ 6 + 4 * x + 3) : oth (upd u n v) x = upd (oth u x) n v := by
  show upd (upd u n v) (6 + 4 * x + 3) (ov (upd u n v) x) = _
  rw [ov_u h4 h2 hn, upd_comm hn]
theorem oth_B2 {u : Nat → Int32} {x k : Nat} {v : Int32} (hx : x < 10) : oth (Bk2 u k v) x = Bk2 (oth u x) k v := by
  show oth (upd (upd u (48 + 8 * k + 4) 2) (48 + 8 * k + 6) v) x = _
  rw [oth_u (by omega) (by omega) (by omega), oth_u (by omega) (by omega) (by omega)]
theorem oth_comm {u : Nat → Int32} {x y : Nat} (h : x ≠ y) : oth (oth u x) y = oth (oth u y) x := by
  show oth (upd u (6 + 4 * x + 3) (ov u x)) y = oth (upd u (6 + 4 * y + 3) (ov u y)) x
  rw [oth_u (by omega) (by omega) (by omega), oth_u (by omega) (by omega) (by omega)]
  show upd (upd u (6 + 4 * y + 3) (ov u y)) (6 + 4 * x + 3) (ov u x) = upd (upd u (6 + 4 * x + 3) (ov u x)) (6 + 4 * y + 3) (ov u y)
  exact upd_comm (by omega)
section SM
variable {B : Nat} {t : TT} {u : Nat → Int32} {np nq : Nat}
theorem UI_tell {u' : Nat → Int32} (hS : US u) (hN : UN u np nq) (h : ∀ j, j < 144 → u' j = u j) : US u' ∧ UN u' np nq := ⟨US_cg hS (fun j hj => h j (by omega)), UN_cg hN (fun j _ hj _ => h j hj)⟩
theorem settle_secs (hR : RT B t u) (hS : US u) (hN : UN u np nq) {k : Nat} (hk : k < nq) {w : Int32} (hw : f_X2_waysOf t (nI k) = some w) (h1 : ¬ w &&& ((1 : Int32) <<< ((1 : Int32) &&& 31)) = 0) :
    ∃ i j x y, i < np ∧ j < np ∧ qv u k 0 = nI i ∧ qv u k 1 = nI j ∧ x < np ∧ y < np ∧ pv u i 2 = nI x ∧ pv u j 2 = nI y := by
  by_cases h0 : qv u k 4 = 0
  · obtain ⟨i, j, a, b, al, O1, O2, L, hi, hj, hij, e0, e1, b1, b2, b3, x1, x2, x3, x4, ea, x5, x6⟩ := ow_e hR hS hN hk h0
    have hww := Option.some.inj (hw.symm.trans x5)
    rw [hww] at h1
    have hb := (dec_not (wz_b1 al a b _ _ _)).1 h1
    rw [Bool.and_eq_true] at hb
    obtain ⟨x, y, hx, hy, _, ex, ey⟩ := x4 hb.1
    exact ⟨i, j, x, y, hi, hj, e0, e1, hx, hy, ex, ey⟩
  · have hww := Option.some.inj (hw.symm.trans (not_open hR hN hk h0).1)
    rw [hww] at h1
    exact absurd (by decide) h1
theorem settle_end (hR : RT B t u) (hB : B < 1000000) (hS : US u) (hN : UN u np nq) {k : Nat} (hk : k < nq) (w : Int32) : ∃ r t' u' t1 t2 t3, f_X2_write t 92 (nI k) 1 = some t1 ∧ f_X2_write t1 104 (nI k) w = some t2 ∧ f_X2_write t2 116 (nI k) t2.1 = some t3 ∧ f_X2_addEvent t3 1 (nI k) = some t' ∧ f_X2_quarrelsWith t' 92 0 = some r ∧
    f_X4_tell (Bk3 u k w (u 4)) 1 (nI k) = some u' ∧ (∃ z, f_X4_quarrelsThat u' 0 = some z ∧ f_X4_size z = some r) ∧ RT (B + 1) t' u' ∧ UI u' := by
  have hq := hN.2.1
  obtain ⟨t1, w1, R1⟩ := x2_wq hR (k := k) 4 (a := 92) rfl (by omega) (by decide) 1
  obtain ⟨t2, w2, R2⟩ := x2_wq R1 (k := k) 5 (a := 104) rfl (by omega) (by decide) w
  obtain ⟨t3, w3, R3⟩ := x2_wq R2 (k := k) 7 (a := 116) rfl (by omega) (by decide) (u 4)
  have e4 : t2.1 = u 4 := by rw [R2.1, pk_un (by omega), pk_un (by omega)]
  obtain ⟨t', u', y1, y2, R4, y3⟩ := tell_e R3 hB 1 (nI k)
  have S3 : US (Bk3 u k w (u 4)) := US_u (US_u (US_u hS (by omega) (by omega)) (by omega) (by omega)) (by omega) (by omega)
  have N3 : UN (Bk3 u k w (u 4)) np nq := UN_q (UN_q (UN_q hN (by omega) (by decide) (fun _ => ⟨by decide, fun c => by omega, fun c => by omega, fun c => by omega⟩)) (by omega) (by decide) (fun _ => ⟨by decide, fun c => by omega, fun c => by omega, fun c => by omega⟩)) (by omega) (by decide) (fun _ => ⟨by decide, fun c => by omega, fun c => by omega, fun _ => hS.2.2.2.2.1⟩)
  obtain ⟨S4, N4⟩ := UI_tell S3 N3 y3
  obtain ⟨r, r1, z, r2, r3⟩ := qcount_e R4 N4 0
  exact ⟨r, t', u', t1, t2, t3, w1, w2, by rw [e4]; exact w3, y1, r1, y2, ⟨z, r2, r3⟩, R4, S4, np, nq, N4⟩
theorem op_settle (hR : RT B t u) (hB : B < 1000000) (hS : US u) (hN : UN u np nq) (a b : Int32) : ∃ r t' u', f_X2_settleBy t a b = some (r, t') ∧ f_X4_settles u a b = some (r, u') ∧ RT (B + 1) t' u' ∧ UI u' := by
  have hp := hN.1
  have hq := hN.2.1
  have hI : UI u := ⟨hS, np, nq, hN⟩
  have hR' : RT (B + 1) t u := hR.mono (Nat.le_succ B)
  unfold f_X2_settleBy f_X4_settles
  rcases hasQ hR hN a with ⟨k, hk, rfl, g1, g2⟩ | ⟨g1, g2⟩
  · have hk12 : k < 12 := by omega
    rw [ob g1, ob g2, if_neg n10, if_neg n10]
    have h4 : (nI 5 - 1 : Int32) = 4 := by decide
    rcases in_nI (a := b) (n := 5) (by decide) with ⟨w, hw, rfl, h1, h2, h3⟩ | ⟨h1, h3⟩
    · rw [h4] at h3
      obtain ⟨W, W1, W2⟩ := waysOf_e hR hS hN hk
      rw [if_neg h1, if_pos (show nI w < 5 from nI_lt hw (by decide)), ob W1, ob h3, if_neg n10, ob W2]
      have hb := al_both W ⟨w, hw⟩
      by_cases c : nI W.1 &&& ((1 : Int32) <<< (nI w &&& 31)) = 0
      · exact ⟨-5, t, u, by rw [if_pos c], by rw [if_pos (hb.1 c)], hR', hI⟩
      · have c' : ¬ (((nI W.1 >>> (nI w &&& 31)) &&& 1) = 0) := fun d => c (hb.2 d)
        have x0 : (wr u 181 (((48 : Int32) + ((8 : Int32) * nI k)) + (4 : Int32)) (1 : Int32)) = some (upd u (48 + 8 * k + 4) 1) := x4_wr (x4_qi (w := 4) (a := 4) rfl) (by omega) (by decide)
        have x1 : (wr (upd u (48 + 8 * k + 4) 1) 181 (((48 : Int32) + ((8 : Int32) * nI k)) + (5 : Int32)) (nI w)) = some (upd (upd u (48 + 8 * k + 4) 1) (48 + 8 * k + 5) (nI w)) := x4_wr (x4_qi (w := 5) (a := 5) rfl) (by omega) (by decide)
        have x2 : rd (upd (upd u (48 + 8 * k + 4) 1) (48 + 8 * k + 5) (nI w)) 181 (4 : Int32) = some (u 4) := by
          rw [x4_rd (n := 4) (a := 4) rfl (by decide) (by decide), pk_un (by omega), pk_un (by omega)]
        have x3 : (wr (upd (upd u (48 + 8 * k + 4) 1) (48 + 8 * k + 5) (nI w)) 181 (((48 : Int32) + ((8 : Int32) * nI k)) + (7 : Int32)) (u 4)) = some (Bk3 u k (nI w) (u 4)) := x4_wr (x4_qi (w := 7) (a := 7) rfl) (by omega) (by decide)
        rw [if_neg c, if_neg c', ob x0, ob x1, ob x2, ob x3]
        have rd0 : ∀ z : Nat → Int32, rd z 181 ((48 : Int32) + ((8 : Int32) * nI k)) = some (qv z k 0) := fun z => x4_rd x4_qj (by omega) (by decide)
        have rd1 : ∀ z : Nat → Int32, rd z 181 (((48 : Int32) + ((8 : Int32) * nI k)) + (1 : Int32)) = some (qv z k 1) := fun z => x4_rd (x4_qi (w := 1) (a := 1) rfl) (by omega) (by decide)
        by_cases w0 : w = 0
        · subst w0
          obtain ⟨⟨i, j, hi, hj, hij, e0, e1⟩, _⟩ := hN.2.2.2.2.2 k hk
          obtain ⟨t0, v0, R0⟩ := addPoints_e hR (k := i) 0 (a := 4) rfl (by omega) (by decide) (-1)
          obtain ⟨r, t', u', t1, t2, t3, y1, y2, y3, y4, y5, y6, ⟨z, y7, y8⟩, R4, I4⟩ := settle_end R0 hB (US_chg hS (by omega) (by decide) _) (UN_chg hN (by omega) (by decide) _) hk (nI 0)
          rw [show chg u i 0 (-1) 4 = u 4 from pk_un (by omega)] at y6
          refine ⟨r, t', u', ?_, ?_, R4, I4⟩
          · rw [if_pos nI_0, ob (rq0 hR hk12), e0, ob v0, ob rfl, ob y1, ob y2, ob y3, ob y4, ob y5]
          · have e0' : qv (Bk3 u k (nI 0) (u 4)) k 0 = nI i := by
              show upd (upd (upd u (48 + 8 * k + 4) 1) (48 + 8 * k + 5) _) (48 + 8 * k + 7) _ (48 + 8 * k + 0) = _
              rw [pk_un (by omega), pk_un (by omega), pk_un (by omega), ← e0]
            rw [if_pos nI_0, ob (rd0 _), e0', ob (change_e (w := 0) (a := 0) rfl (by omega) (by decide)), ob rfl, if_neg (by decide), ob rfl, chg_B3 (by omega) (by decide), ob y6, ob y7, ob y8]
        · have w0' : ¬ nI w = 0 := nI_ne0 (by omega) (by omega)
          by_cases w1 : w = 1
          · subst w1
            obtain ⟨i, j, x, y, hi, hj, e0, e1, hx, hy, ex, ey⟩ := settle_secs hR hS hN hk W1 c
            obtain ⟨t0, v0, R0⟩ := addPoints_e hR (k := x) 1 (a := 14) rfl (by omega) (by decide) 1
            have S0 := US_chg hS (k := x) (w := 1) (by omega) (by decide) 1
            have N0 := UN_chg hN (k := x) (w := 1) (by omega) (by decide) 1
            have e1' : qv (chg u x 1 1) k 1 = nI j := by
              show upd u (6 + 4 * x + 1) _ (48 + 8 * k + 1) = _
              rw [pk_un (by omega), ← e1]
            have ey' : pv (chg u x 1 1) j 2 = nI y := by
              show upd u (6 + 4 * x + 1) _ (6 + 4 * j + 2) = _
              rw [pk_un (by omega), ← ey]
            obtain ⟨t00, v00, R00⟩ := addPoints_e R0 (k := y) 1 (a := 14) rfl (by omega) (by decide) 1
            obtain ⟨r, t', u', t1, t2, t3, y1, y2, y3, y4, y5, y6, ⟨z, y7, y8⟩, R4, I4⟩ := settle_end R00 hB (US_chg S0 (by omega) (by decide) _) (UN_chg N0 (by omega) (by decide) _) hk (nI 1)
            rw [show chg (chg u x 1 1) y 1 1 4 = u 4 from (pk_un (by omega)).trans (pk_un (by omega))] at y6
            refine ⟨r, t', u', ?_, ?_, R4, I4⟩
            · rw [if_neg w0', if_pos (show nI 1 = 1 from rfl), ob (rq0 hR hk12), e0, ob (rdp2 hR (by omega)), ex, ob v0, ob (rq1 R0 hk12), e1', ob (rdp2 R0 (by omega)), ey', ob v00, ob rfl, ob y1, ob y2, ob y3, ob y4, ob y5]
            · have e0' : qv (Bk3 u k (nI 1) (u 4)) k 0 = nI i := by
                show upd (upd (upd u (48 + 8 * k + 4) 1) (48 + 8 * k + 5) _) (48 + 8 * k + 7) _ (48 + 8 * k + 0) = _
                rw [pk_un (by omega), pk_un (by omega), pk_un (by omega), ← e0]
              have ex' : pv (Bk3 u k (nI 1) (u 4)) i 2 = nI x := by
                show upd (upd (upd u (48 + 8 * k + 4) 1) (48 + 8 * k + 5) _) (48 + 8 * k + 7) _ (6 + 4 * i + 2) = _
                rw [pk_un (by omega), pk_un (by omega), pk_un (by omega), ← ex]
              have e1'' : qv (Bk3 (chg u x 1 1) k (nI 1) (u 4)) k 1 = nI j := by
                show upd (upd (upd (chg u x 1 1) (48 + 8 * k + 4) 1) (48 + 8 * k + 5) _) (48 + 8 * k + 7) _ (48 + 8 * k + 1) = _
                rw [pk_un (by omega), pk_un (by omega), pk_un (by omega), ← e1']
              have ey'' : pv (Bk3 (chg u x 1 1) k (nI 1) (u 4)) j 2 = nI y := by
                show upd (upd (upd (chg u x 1 1) (48 + 8 * k + 4) 1) (48 + 8 * k + 5) _) (48 + 8 * k + 7) _ (6 + 4 * j + 2) = _
                rw [pk_un (by omega), pk_un (by omega), pk_un (by omega), ← ey']
              rw [if_neg w0', ob rfl, if_pos (show nI 1 = 1 from rfl), ob (rd0 _), e0', ob (mp2 (by omega)), ex', ob (change_e (w := 1) (a := 1) rfl (by omega) (by decide)), chg_B3 (by omega) (by decide), ob (rd1 _), e1'', ob (mp2 (by omega)), ey'', ob (change_e (w := 1) (a := 1) rfl (by omega) (by decide)), chg_B3 (by omega) (by decide), ob rfl, ob y6, ob y7, ob y8]
          · have w1' : ¬ nI w = 1 := fun d => w1 ((nI_eq (b := 1) (by omega) (by decide)).1 d)
            obtain ⟨r, t', u', t1, t2, t3, y1, y2, y3, y4, y5, y6, ⟨z, y7, y8⟩, R4, I4⟩ := settle_end hR hB hS hN hk (nI w)
            refine ⟨r, t', u', ?_, ?_, R4, I4⟩
            · rw [if_neg w0', if_neg w1', ob rfl, ob y1, ob y2, ob y3, ob y4, ob y5]
            · rw [if_neg w0', ob rfl, if_neg w1', ob rfl, ob y6, ob y7, ob y8]
    · rw [h4] at h3
      refine ⟨-1, t, u, ?_, by rw [ob h3, if_pos rfl], hR', hI⟩
      by_cases c : b < 0
      · rw [if_pos c]
      · rw [if_neg c, if_neg (fun d => by
          have d1 := ti_lt.1 d
          have d2 := ti_le.1 (h1.resolve_left c)
          have d3 : (nI 5).toInt = (5 : Int32).toInt := rfl
          omega)]
  · exact ⟨-1, t, u, by rw [ob g1, if_pos rfl], by rw [ob g2, if_pos rfl], hR', hI⟩
theorem op_fight (hR : RT B t u) (hB : B < 1000000) (hS : US u) (hN : UN u np nq) (a : Int32) : ∃ r t' u', f_X2_duel t a = some (r, t') ∧ f_X4_fights u a = some (r, u') ∧ RT (B + 1) t' u' ∧ UI u' := by
  have hp := hN.1
  have hq := hN.2.1
  have hI : UI u := ⟨hS, np, nq, hN⟩
  have hR' : RT (B + 1) t u := hR.mono (Nat.le_succ B)
  unfold f_X2_duel f_X4_fights
  rcases hasQ hR hN a with ⟨k, hk, rfl, g1, g2⟩ | ⟨g1, g2⟩
  · have hk12 : k < 12 := by omega
    obtain ⟨w, v, W1, W2, W3⟩ := reason_e hR hS hN hk
    rw [ob g1, ob g2, if_neg n10, if_neg n10, ob W1, ob W2, ob W3]
    by_cases c : v = 0
    · obtain ⟨i, j, x, y, hi, hj, hij, e0, e1, hxy, v1, v2⟩ := winner_e hR hN hk
      have hx : x < np := by rcases hxy with ⟨rfl, _⟩ | ⟨rfl, _⟩ <;> assumption
      have hy : y < np := by rcases hxy with ⟨_, rfl⟩ | ⟨_, rfl⟩ <;> assumption
      have hv17 : (if nI x = nI i then some (nI j) else some (nI i)) = some (nI y) := by
        rcases hxy with ⟨rfl, rfl⟩ | ⟨rfl, rfl⟩
        · rw [if_pos rfl]
        · rw [if_neg (fun d => hij ((nI_eq (by omega) (by omega)).1 d).symm)]
      have hoth : nI i + nI j - nI x = nI y := by
        rcases hxy with ⟨rfl, rfl⟩ | ⟨rfl, rfl⟩
        · rw [nI_add, pk_sub (by omega)]; exact congrArg nI (by omega)
        · rw [nI_add, pk_sub (by omega)]; exact congrArg nI (by omega)
      obtain ⟨t1, q1, R1⟩ := addPoints_e hR (k := x) 0 (a := 4) rfl (by omega) (by decide) 1
      obtain ⟨t2, q2, R2⟩ := addPoints_e R1 (k := y) 0 (a := 4) rfl (by omega) (by decide) (-2)
      have S2 := US_chg (US_chg hS (k := x) (w := 0) (by omega) (by decide) 1) (k := y) (w := 0) (by omega) (by decide) (-2)
      have N2 := UN_chg (UN_chg hN (k := x) (w := 0) (by omega) (by decide) 1) (k := y) (w := 0) (by omega) (by decide) (-2)
      obtain ⟨t3, q3, R3⟩ := bind_e R2 (k := i) (by omega)
      obtain ⟨t4, q4, R4⟩ := bind_e R3 (k := j) (by omega)
      have S4 := US_oth (US_oth S2 (k := i) (by omega)) (k := j) (by omega)
      have N4 := UN_oth (US_oth S2 (k := i) (by omega)) (UN_oth S2 N2 hi) hj
      obtain ⟨t5, q5, R5⟩ := x2_wq R4 (k := k) 4 (a := 92) rfl hk12 (by decide) 2
      obtain ⟨t6, q6, R6⟩ := x2_wq R5 (k := k) 6 (a := 128) rfl hk12 (by decide) (nI x)
      have S6 : US (Bk2 (oth (oth (chg (chg u x 0 1) y 0 (-2)) i) j) k (nI x)) := US_u (US_u S4 (by omega) (by omega)) (by omega) (by omega)
      have N6 : UN (Bk2 (oth (oth (chg (chg u x 0 1) y 0 (-2)) i) j) k (nI x)) np nq := UN_q (UN_q N4 hk12 (by decide) (fun _ => ⟨by decide, fun c => by omega, fun c => by omega, fun c => by omega⟩)) hk12 (by decide) (fun _ => ⟨by decide, fun c => by omega, fun c => by omega, fun c => by omega⟩)
      obtain ⟨t', u', y1, y2, R7, y3⟩ := tell_e R6 hB 2 (nI k)
      obtain ⟨S7, N7⟩ := UI_tell S6 N6 y3
      refine ⟨nI x, t', u', ?_, ?_, R7, S7, np, nq, N7⟩
      · rw [if_pos c, ob (rq0 hR hk12), ob (rq1 hR hk12), e0, e1, ob v1, ob q1, ob hv17, ob q2, ob q3, ob q4, ob q5, ob q6, ob y1]
      · have ho : oth (oth (Bk2 (chg (chg u x 0 1) y 0 (-2)) k (nI x)) x) y = Bk2 (oth (oth (chg (chg u x 0 1) y 0 (-2)) i) j) k (nI x) := by
          rw [oth_B2 (by omega), oth_B2 (by omega)]
          rcases hxy with ⟨rfl, rfl⟩ | ⟨rfl, rfl⟩
          · rfl
          · rw [oth_comm (Ne.symm hij)]
        have r0 : rd u 181 ((48 : Int32) + ((8 : Int32) * nI k)) = some (nI i) := by
          rw [x4_rd x4_qj (by omega) (by decide), ← e0]
          rfl
        have r1 : rd u 181 (((48 : Int32) + ((8 : Int32) * nI k)) + (1 : Int32)) = some (nI j) := by
          rw [x4_rd (x4_qi (w := 1) (a := 1) rfl) (by omega) (by decide), ← e1]
        have z0 : (wr u 181 (((48 : Int32) + ((8 : Int32) * nI k)) + (4 : Int32)) (2 : Int32)) = some (upd u (48 + 8 * k + 4) 2) := x4_wr (x4_qi (w := 4) (a := 4) rfl) (by omega) (by decide)
        have z1 : (wr (upd u (48 + 8 * k + 4) 2) 181 (((48 : Int32) + ((8 : Int32) * nI k)) + (6 : Int32)) (nI x)) = some (Bk2 u k (nI x)) := x4_wr (x4_qi (w := 6) (a := 6) rfl) (by omega) (by decide)
        rw [if_pos c, ob v2, ob r0, ob r1, ob z0, ob z1, ob (change_e (w := 0) (a := 0) rfl (by omega) (by decide)), hoth, ob (change_e (w := 0) (a := 0) rfl (by omega) (by decide)), chg_B2 (by omega) (by decide), chg_B2 (by omega) (by decide), ob (oath_e (by omega)), ob (oath_e (by omega)), ho, ob y2]
    · exact ⟨-5, t, u, by rw [if_neg c], by rw [if_neg c], hR', hI⟩
  · exact ⟨-1, t, u, by rw [ob g1, if_pos rfl], by rw [ob g2, if_pos rfl], hR', hI⟩
theorem op_swear (hR : RT B t u) (hB : B < 1000000) (hS : US u) (hN : UN u np nq) (a : Int32) : ∃ r t' u', f_X2_takeOath t a = some (r, t') ∧ f_X4_swears u a = some (r, u') ∧ RT (B + 1) t' u' ∧ UI u' := by
  have hp := hN.1
  have hI : UI u := ⟨hS, np, nq, hN⟩
  have hR' : RT (B + 1) t u := hR.mono (Nat.le_succ B)
  unfold f_X2_takeOath f_X4_swears
  rcases hasP hR hN a with ⟨k, hk, rfl, g1, g2⟩ | ⟨g1, g2⟩
  · have hk10 : k < 10 := by omega
    have pi := (hN.2.2.2.2.1 k hk).2.2.2
    have hu := under_iff (later := 0) hS pi.1 pi.2 (by decide) (by decide)
    rw [ob g1, ob g2, if_neg n10, if_neg n10, ob (oathLeft_e hR hk10), ob (isUnderOath_e hk10 0)]
    rw [← ti_lt] at hu
    by_cases c : pv u k 3 ≤ u 4 + 0
    · have c2 := hu.1 c
      obtain ⟨t1, q1, R1⟩ := bind_e hR hk10
      obtain ⟨t', u', y1, y2, R2, y3⟩ := tell_e R1 hB 3 (nI k)
      obtain ⟨S2, N2⟩ := UI_tell (US_oth hS hk10) (UN_oth hS hN hk) y3
      refine ⟨pv u' k 3, t', u', ?_, ?_, R2, S2, np, nq, N2⟩
      · rw [if_pos (by rw [ti_le]; have := mt ti_lt.2 c2; omega), ob q1, ob y1, ob (rdp3 R2 hk10)]
      · rw [if_pos c, if_pos rfl, ob (oath_e hk10), ob y2, ob (mp3 hk10)]
    · have c2 : (0 : Int32) < (if (0 : Int32) < pv u k 3 - u 4 then pv u k 3 - u 4 else 0) := Classical.byContradiction (fun d => c (hu.2 d))
      exact ⟨-5, t, u, by rw [if_neg (by rw [ti_le]; have := ti_lt.1 c2; omega)], by rw [if_neg c, if_neg n10], hR', hI⟩
  · exact ⟨-1, t, u, by rw [ob g1, if_pos rfl], by rw [ob g2, if_pos rfl], hR', hI⟩
theorem op_pass (hR : RT B t u) (hS : US u) (hN : UN u np nq) (a : Int32) :
    (∃ r, r < 0 ∧ ¬ r = -6 ∧ f_X2_moveOn t a = some (r, t) ∧ f_X4_passes u a = some (r, u)) ∨
    (∃ r r' t' u' d, 0 ≤ r ∧ 0 ≤ r' ∧ f_X2_moveOn t a = some (r, t') ∧ f_X4_passes u a = some (r', u') ∧ f_X2_dueQuarrels t' = some d ∧ f_J6_bitCount_0f7a4 d = some r' ∧ RT B t' u' ∧ UI u') := by
  unfold f_X2_moveOn f_X4_passes
  rw [in_e]
  have h4 := hS.2.2.2.2.1
  by_cases c1 : a < 1
  · exact Or.inl ⟨-2, by decide, by decide, by rw [if_pos c1], by rw [if_pos (Or.inl c1)]; rfl⟩
  · by_cases c2 : a ≤ 99
    · have d1 := mt ti_lt.2 c1
      have d2 := ti_le.1 c2
      rw [ti_1] at d1
      rw [show (99 : Int32).toInt = 99 from by decide] at d2
      have es : (u 4 + a).toInt = (u 4).toInt + a.toInt := ti_add (by omega) (by omega)
      have c3 : ¬ (a < 1 ∨ (99 : Int32) < a) := fun d => d.elim c1 (fun e => by
        have := ti_lt.1 e
        rw [show (99 : Int32).toInt = 99 from by decide] at this
        omega)
      rw [if_neg c1, if_pos c2, if_neg c3, ob rfl, if_neg n10, ob ms4, hR.1]
      by_cases c4 : u 4 + a ≤ 9999
      · have d4 := ti_le.1 c4
        rw [show (9999 : Int32).toInt = 9999 from by decide, es] at d4
        have R1 := RT_hour hR (u 4 + a)
        have S1 : US (upd u 4 (u 4 + a)) := by
          unfold US
          rw [pk_un (by decide), pk_un (by decide), pk_un (by decide), pk_un (by decide), pk_us, pk_un (by decide)]
          exact ⟨hS.1, hS.2.1, hS.2.2.1, hS.2.2.2.1, by omega, hS.2.2.2.2.2⟩
        have N1 : UN (upd u 4 (u 4 + a)) np nq := UN_cg hN (fun j hj _ _ => pk_un (by omega))
        obtain ⟨d, r1, r2, r3, r4⟩ := due_e R1 S1 N1
        refine Or.inr ⟨u 4 + a, sz16 d, T0 t (u 4 + a), upd u 4 (u 4 + a), d, by rw [ti_le, ti_0]; omega, r4, by rw [if_pos c4], ?_, r1, r3, R1, S1, np, nq, N1⟩
        · rw [if_pos c4, ob ms4, ob (x4_wr (n := 4) (a := 4) rfl (by decide) (by decide)), ob r2, ob (size_e d)]
      · exact Or.inl ⟨-5, by decide, by decide, by rw [if_neg c4], by rw [if_neg c4]⟩
    · exact Or.inl ⟨-2, by decide, by decide, by rw [if_neg c1, if_neg c2], by
        rw [if_pos]
        · rfl
        · refine Or.inr ?_
          have := mt ti_le.2 c2
          rw [ti_lt]; omega⟩
end SM

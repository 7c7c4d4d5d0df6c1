/-! what the law does; one event; the start -/
theorem low_e (a : Int32) {n : Nat} (h0 : 0 < n) (hn : n < 1000) : ∃ y, y < n ∧ f_L_low a (nI n) = some (nI y) := by
  refine ⟨(a.toBitVec.toNat % 2 ^ 31) % n, Nat.mod_lt _ h0, ?_⟩
  unfold f_L_low
  rw [if_neg (nI_ne0 h0 (by omega)), pk_and a (m := 2147483647) 31 (by decide), pk_rem (Nat.mod_lt _ (by decide)) h0 (by omega)]
theorem mild_e {r : Int32} (h : MR r) : ∃ r', f_L_mild r = some r' ∧ ¬ r' < 0 := by
  unfold f_L_mild
  by_cases c1 : r = -5
  · exact ⟨0, by rw [if_pos c1], by decide⟩
  by_cases c2 : r = -4
  · exact ⟨0, by rw [if_neg c1, if_pos c2], by decide⟩
  by_cases c3 : r = -6
  · exact ⟨0, by rw [if_neg c1, if_neg c2, if_pos c3], by decide⟩
  refine ⟨r, by rw [if_neg c1, if_neg c2, if_neg c3], ?_⟩
  rcases h with h | h | h | h
  · exact absurd h c1
  · exact absurd h c2
  · exact absurd h c3
  · exact h
theorem fin3 {t t' : TT} {hh : HH} (hH : HS hh) {F : Option (Int32 × TT)} {r : Int32} {B : Nat} {H : Int} (hF : F = some (r, t')) (hm : MR r) (hg : GO B H t') {X : Option (Int32 × TT × HH)} (hX : X = ((f_X0_note hh t).bind fun x1 => (F.bind fun x3 => ((f_X0_keepUnlessError x1 x3.1).bind fun x5 => some (x5.1, x3.2, x5.2))))) : ∃ r2 t2 hh2, (X.bind fun x => ((f_L_mild x.1).bind fun y => some (y, x.2.1, x.2.2))) = some (r2, t2, hh2) ∧ ¬ r2 < 0 ∧ GO B H t2 ∧ HS hh2 := by
  obtain ⟨h1, k1, k2, _⟩ := chg3 (t := t) hH hF
  obtain ⟨r', m1, m2⟩ := mild_e hm
  refine ⟨r', t', h1, ?_, m2, hg, k1⟩
  rw [hX, k2, ob rfl, ob m1]
theorem fin4 {t t' : TT} {hh : HH} (hH : HS hh) {F : Option (Int32 × TT)} {r : Int32} {B : Nat} {H : Int} (hF : F = some (r, t')) (hm : ¬ r < 0) (hg : GO B H t') {X : Option (Int32 × TT × HH)} (hX : X = ((f_X0_note hh t).bind fun x1 => (F.bind fun x3 => ((f_X0_keepUnlessError x1 x3.1).bind fun x5 => some (x5.1, x3.2, x5.2))))) : ∃ r2 t2 hh2, (X.bind fun x => some (x.1, x.2.1, x.2.2)) = some (r2, t2, hh2) ∧ ¬ r2 < 0 ∧ GO B H t2 ∧ HS hh2 := by
  obtain ⟨h1, k1, k2, _⟩ := chg3 (t := t) hH hF
  refine ⟨r, t', h1, ?_, hm, hg, k1⟩
  rw [hX, k2, ob rfl]
theorem does_e {t : TT} {hh : HH} {e : Nat} (he : e < 60) (h : GO e (60 * e) t) (hH : HS hh) (pp : PP) (v : Int32) : ∃ r t' hh', f_L_does t hh pp v = some (r, t', hh') ∧ ¬ r < 0 ∧ GO (e + 1) (60 * (e + 1)) t' ∧ HS hh' := by
  obtain ⟨u, np, nq, hR, hS, hN, hX, h4, hU⟩ := h
  have hp := hN.1
  have hq := hN.2.1
  have hB : e < 1000000 := by omega
  have up : ∀ {t' : TT}, GO (e + 1) (u 4).toInt t' → GO (e + 1) (60 * (e + 1)) t' := fun g => g.mono (Nat.le_refl _) (by omega)
  have G0 : GO (e + 1) (60 * (e + 1)) t := up ⟨u, np, nq, hR.mono (Nat.le_succ e), hS, hN, hX, h4, Int.le_refl _⟩
  obtain ⟨y1, l1, e1⟩ := low_e (v >>> ((4 : Int32) &&& 31)) (n := np) (by omega) (by omega)
  obtain ⟨y2, l2, e2⟩ := low_e (v >>> ((7 : Int32) &&& 31)) (n := np - 1) (by omega) (by omega)
  obtain ⟨o, eo⟩ : ∃ o, o = (y1 + 1 + y2) % np := ⟨_, rfl⟩
  have ho : o < np := by rw [eo]; exact Nat.mod_lt _ (by omega)
  have hne : y1 ≠ o := by
    rw [eo]
    by_cases c : y1 + 1 + y2 < np
    · rw [Nat.mod_eq_of_lt c]; omega
    · rw [Nat.mod_eq_sub_mod (by omega), Nat.mod_eq_of_lt (by omega)]; omega
  have hoth : ((nI y1 + (1 : Int32)) + nI y2) - ((nI y1 + (1 : Int32)) + nI y2) / nI np * nI np = nI o := by
    rw [nI_1, nI_add, pk_rem (by omega) (by omega) (by omega), eo]
  have hpr : nI np - (1 : Int32) = nI (np - 1) := by
    obtain ⟨n', rfl⟩ : ∃ n', np = n' + 1 := ⟨np - 1, by omega⟩
    exact nI_pred n'
  have ins : ∃ r2 t2 hh2, ((f_L_low (v >>> ((9 : Int32) &&& 31)) (9 : Int32)).bind fun x12 => ((f_X3_insult t hh pp (nI y1) (nI o) ((1 : Int32) + x12)).bind fun x14 => ((f_L_mild x14.1).bind fun x16 => some (x16, x14.2.1, x14.2.2)))) = some (r2, t2, hh2) ∧ ¬ r2 < 0 ∧ GO (e + 1) (60 * (e + 1)) t2 ∧ HS hh2 := by
    obtain ⟨y9, l9, e9⟩ := low_e (v >>> ((9 : Int32) &&& 31)) (n := 9) (by omega) (by omega)
    have e9' : f_L_low (v >>> ((9 : Int32) &&& 31)) (9 : Int32) = some (nI y9) := e9
    have a1 : (1 : Int32) + nI y9 = nI (1 + y9) := nI_add 1 y9
    rw [ob e9', a1]
    have hr : 1 ≤ (nI (1 + y9)).toInt ∧ (nI (1 + y9)).toInt ≤ 9 := by rw [nI_toInt (by omega)]; omega
    rcases op2_insult hR hB hS hN hX l1 ho hne hr with g | g | ⟨t1, u1, g, R1, S1, N1, X1, NQ1⟩
    · exact fin3 hH g (Or.inl rfl) G0 rfl
    · exact fin3 hH g (Or.inr (Or.inl rfl)) G0 rfl
    · exact fin3 hH g (Or.inr (Or.inr (Or.inr (nI_pos (by omega))))) (up ⟨u1, np, nq + 1, R1, S1, N1, X1, h4, by rw [NQ1.2.2.2.2.2.2.1 4 (by omega)]; exact Int.le_refl _⟩) rfl
  have set4 : ∃ r2 t2 hh2, (if nI nq = 0 then some ((0 : Int32), t, hh) else ((f_L_low (v >>> ((4 : Int32) &&& 31)) (nI nq)).bind fun x51 => ((f_L_low (v >>> ((8 : Int32) &&& 31)) (5 : Int32)).bind fun x53 => ((f_X3_settle t hh pp x51 x53).bind fun x55 => ((f_L_mild x55.1).bind fun x57 => some (x57, x55.2.1, x55.2.2)))))) = some (r2, t2, hh2) ∧ ¬ r2 < 0 ∧ GO (e + 1) (60 * (e + 1)) t2 ∧ HS hh2 := by
    by_cases c : nI nq = 0
    · exact ⟨0, t, hh, by rw [if_pos c], by decide, G0, hH⟩
    · have hnq : 0 < nq := Nat.pos_of_ne_zero (fun d => c (by rw [d]; exact nI_0))
      obtain ⟨k, lk, ek⟩ := low_e (v >>> ((4 : Int32) &&& 31)) hnq (by omega)
      obtain ⟨w, lw, ew⟩ := low_e (v >>> ((8 : Int32) &&& 31)) (n := 5) (by omega) (by omega)
      have ew' : f_L_low (v >>> ((8 : Int32) &&& 31)) (5 : Int32) = some (nI w) := ew
      rw [if_neg c, ob ek, ob ew']
      obtain ⟨r, t1, g1, g2, g3⟩ := op2_settle hR hB hS hN hX h4 lk lw
      exact fin3 hH g1 g2 (up g3) rfl
  have fig4 : ∃ r2 t2 hh2, (if nI nq = 0 then some ((0 : Int32), t, hh) else ((f_L_low (v >>> ((4 : Int32) &&& 31)) (nI nq)).bind fun x71 => ((f_X3_fight t hh pp x71).bind fun x73 => ((f_L_mild x73.1).bind fun x75 => some (x75, x73.2.1, x73.2.2))))) = some (r2, t2, hh2) ∧ ¬ r2 < 0 ∧ GO (e + 1) (60 * (e + 1)) t2 ∧ HS hh2 := by
    by_cases c : nI nq = 0
    · exact ⟨0, t, hh, by rw [if_pos c], by decide, G0, hH⟩
    · have hnq : 0 < nq := Nat.pos_of_ne_zero (fun d => c (by rw [d]; exact nI_0))
      obtain ⟨k, lk, ek⟩ := low_e (v >>> ((4 : Int32) &&& 31)) hnq (by omega)
      rw [if_neg c, ob ek]
      obtain ⟨r, t1, g1, g2, g3⟩ := op2_fight hR hB hS hN hX h4 lk
      exact fin3 hH g1 g2 (up g3) rfl
  have pas : ∀ n : Nat, 0 < n → n ≤ 60 → ∃ r2 t2 hh2, ((f_L_low (v >>> ((4 : Int32) &&& 31)) (nI n)).bind fun x122 => ((f_X3_pass t hh pp ((1 : Int32) + x122)).bind fun x124 => some (x124.1, x124.2.1, x124.2.2))) = some (r2, t2, hh2) ∧ ¬ r2 < 0 ∧ GO (e + 1) (60 * (e + 1)) t2 ∧ HS hh2 := by
    intro n n0 n60
    obtain ⟨y, ly, ey⟩ := low_e (v >>> ((4 : Int32) &&& 31)) n0 (by omega)
    have a1 : (1 : Int32) + nI y = nI (1 + y) := nI_add 1 y
    obtain ⟨r, h9, p1, p2, p3, p4, R1, S1, N1, X1, es⟩ := op2_pass hR hS hN hX (a := 1 + y) (by omega) (by omega) (by omega) hH pp
    refine ⟨r, _, h9, ?_, p2, ⟨_, np, nq, R1.mono (Nat.le_succ e), S1, N1, X1, h4, ?_⟩, p3⟩
    · rw [ob ey, a1, ob p1]
    · rw [pk_us, es]; omega
  unfold f_L_does
  rw [ob (ct_1 hR hN hh pp), ob e1, hpr, ob e2, if_neg (nI_ne0 (by omega) (by omega)), ob (ct_2 hR hN hh pp), hoth]
  by_cases c0 : v &&& (15 : Int32) = 0
  · rw [if_pos c0]; exact ins
  by_cases c1 : v &&& (15 : Int32) = 1
  · rw [if_neg c0, if_pos c1]; exact ins
  rw [if_neg c0, if_neg c1]
  by_cases c2 : v &&& (15 : Int32) = 2
  · rw [if_pos c2]; exact ins
  by_cases c3 : v &&& (15 : Int32) = 3
  · rw [if_neg c2, if_pos c3]; exact ins
  rw [if_neg c2, if_neg c3]
  by_cases c4 : v &&& (15 : Int32) = 4
  · rw [if_pos c4]
    obtain ⟨r, t1, g1, g2, g3⟩ := op2_second hR hS hN hX h4 l1 ho hne
    exact fin3 hH g1 g2 (up g3) rfl
  by_cases c5 : v &&& (15 : Int32) = 5
  · rw [if_neg c4, if_pos c5]
    obtain ⟨w, lw, ew⟩ := low_e (v >>> ((4 : Int32) &&& 31)) (n := 5) (by omega) (by omega)
    have ew' : f_L_low (v >>> ((4 : Int32) &&& 31)) (5 : Int32) = some (nI w) := ew
    rw [ob ew']
    obtain ⟨r, t1, g1, g2, g3⟩ := op2_allow hR hS hN hX h4 lw
    exact fin4 hH g1 g2 (up g3) rfl
  rw [if_neg c4, if_neg c5]
  by_cases c6 : v &&& (15 : Int32) = 6
  · rw [if_pos c6]; exact set4
  by_cases c7 : v &&& (15 : Int32) = 7
  · rw [if_neg c6, if_pos c7]; exact set4
  rw [if_neg c6, if_neg c7]
  by_cases c8 : v &&& (15 : Int32) = 8
  · rw [if_pos c8]; exact fig4
  by_cases c9 : v &&& (15 : Int32) = 9
  · rw [if_neg c8, if_pos c9]; exact fig4
  rw [if_neg c8, if_neg c9]
  by_cases c10 : v &&& (15 : Int32) = 10
  · rw [if_pos c10]
    obtain ⟨r, t1, g1, g2, g3⟩ := op2_swear hR hB hS hN hX h4 l1
    exact fin3 hH g1 g2 (up g3) rfl
  by_cases c11 : v &&& (15 : Int32) = 11
  · rw [if_neg c10, if_pos c11]
    obtain ⟨a, la, ea⟩ := low_e (v >>> ((4 : Int32) &&& 31)) (n := 10) (by omega) (by omega)
    obtain ⟨b, lb, eb⟩ := low_e (v >>> ((7 : Int32) &&& 31)) (n := 10) (by omega) (by omega)
    have ea' : f_L_low (v >>> ((4 : Int32) &&& 31)) (10 : Int32) = some (nI a) := ea
    have eb' : f_L_low (v >>> ((7 : Int32) &&& 31)) (10 : Int32) = some (nI b) := eb
    rw [ob ea', ob eb']
    rcases op2_person hR hS hN hX (show a ≤ 9 by omega) (show b ≤ 9 by omega) with ⟨_, g⟩ | ⟨t1, u1, g, R1, S1, N1, X1, g4⟩
    · exact fin3 hH g (Or.inr (Or.inl rfl)) G0 rfl
    · exact fin3 hH g (Or.inr (Or.inr (Or.inr (nI_pos (by omega))))) (up ⟨u1, np + 1, nq, R1.mono (Nat.le_succ e), S1, N1, X1, by omega, by rw [g4]; exact Int.le_refl _⟩) rfl
  rw [if_neg c10, if_neg c11]
  by_cases c12 : v &&& (15 : Int32) = 12
  · rw [if_pos c12]
    obtain ⟨s, ls, es⟩ := low_e (v >>> ((4 : Int32) &&& 31)) (n := 4) (by omega) (by omega)
    have es' : f_L_low (v >>> ((4 : Int32) &&& 31)) (4 : Int32) = some (nI s) := es
    rw [ob es']
    have go : ∀ b : Int32, (lowB s).toInt ≤ b.toInt → b.toInt ≤ (highB s).toInt → ∃ r2 t2 hh2, ((f_X3_set t hh pp (nI s) b).bind fun x => some (x.1, x.2.1, x.2.2)) = some (r2, t2, hh2) ∧ ¬ r2 < 0 ∧ GO (e + 1) (60 * (e + 1)) t2 ∧ HS hh2 := by
      intro b b1 b2
      obtain ⟨r, t1, g1, g2, g3⟩ := op2_set hR hS hN hX h4 ls b1 b2
      exact fin4 hH g1 g2 (up g3) rfl
    rcases (show s = 0 ∨ s = 1 ∨ s = 2 ∨ s = 3 by omega) with rfl | rfl | rfl | rfl
    · obtain ⟨y, ly, ey⟩ := low_e (v >>> ((6 : Int32) &&& 31)) (n := 12) (by omega) (by omega)
      have ey' : f_L_low (v >>> ((6 : Int32) &&& 31)) (12 : Int32) = some (nI y) := ey
      have a1 : (1 : Int32) + nI y = nI (1 + y) := nI_add 1 y
      rw [if_pos nI_0, ob ey', a1]
      refine go _ ?_ ?_
      · rw [nI_toInt (by omega), show (lowB 0).toInt = 1 from by decide]; omega
      · rw [nI_toInt (by omega), show (highB 0).toInt = 48 from by decide]; omega
    · obtain ⟨y, ly, ey⟩ := low_e (v >>> ((6 : Int32) &&& 31)) (n := 40) (by omega) (by omega)
      have ey' : f_L_low (v >>> ((6 : Int32) &&& 31)) (40 : Int32) = some (nI y) := ey
      rw [if_neg (by decide), if_pos (by decide), ob ey']
      refine go _ ?_ ?_
      · rw [nI_toInt (by omega), show (lowB 1).toInt = 0 from by decide]; omega
      · rw [nI_toInt (by omega), show (highB 1).toInt = 99 from by decide]; omega
    · obtain ⟨y, ly, ey⟩ := low_e (v >>> ((6 : Int32) &&& 31)) (n := 60) (by omega) (by omega)
      have ey' : f_L_low (v >>> ((6 : Int32) &&& 31)) (60 : Int32) = some (nI y) := ey
      have a1 : (1 : Int32) + nI y = nI (1 + y) := nI_add 1 y
      rw [if_neg (by decide), if_neg (by decide), if_pos (by decide), ob ey', a1]
      refine go _ ?_ ?_
      · rw [nI_toInt (by omega), show (lowB 2).toInt = 1 from by decide]; omega
      · rw [nI_toInt (by omega), show (highB 2).toInt = 200 from by decide]; omega
    · obtain ⟨y, ly, ey⟩ := low_e (v >>> ((6 : Int32) &&& 31)) (n := 200) (by omega) (by omega)
      have ey' : f_L_low (v >>> ((6 : Int32) &&& 31)) (200 : Int32) = some (nI y) := ey
      rw [if_neg (by decide), if_neg (by decide), if_neg (by decide), ob ey']
      refine go _ ?_ ?_
      · rw [nI_toInt (by omega), show (lowB 3).toInt = 0 from by decide]; omega
      · rw [nI_toInt (by omega), show (highB 3).toInt = 400 from by decide]; omega
  rw [if_neg c12]
  by_cases c13 : ((v >>> ((9 : Int32) &&& 31)) &&& (1 : Int32)) = 0
  · rw [if_pos c13, ob rfl]
    exact pas 8 (by omega) (by omega)
  · rw [if_neg c13, ob rfl]
    exact pas 60 (by omega) (by omega)
/-- one event -/
theorem event_e {t : TT} {hh : HH} {e : Nat} (he : e < 60) (h : GO e (60 * e) t) (hH : HS hh) (pp : PP) (v : Int32) :
    ∃ (x4 r y5 y7 c : Int32) (t1 t2 : TT) (h1 h2 : HH), f_L_low (v >>> ((3 : Int32) &&& 31)) 4 = some x4 ∧ f_L_does t hh pp v = some (r, t1, h1) ∧ ¬ r < 0 ∧ f_L_areQuarrelsSo t1 h1 pp = some 1 ∧ f_L_arePersonsSo t1 h1 pp = some 1 ∧ f_L_low (v >>> ((5 : Int32) &&& 31)) 3 = some y5 ∧ f_L_low (v >>> ((7 : Int32) &&& 31)) 9 = some y7 ∧
      f_L_isInsultSo t1 h1 pp x4 (((x4 + 1) + y5) - ((x4 + 1) + y5) / 4 * 4) (1 + y7) = some (1, t2, h2) ∧ f_X3_count t2 h2 pp 2 = some c ∧ GO (e + 1) (60 * (e + 1)) t2 ∧ HS h2 ∧ (¬ c ≤ 0 → ∃ y4 t3 h3, f_L_low (v >>> ((4 : Int32) &&& 31)) c = some y4 ∧ f_L_isTimeSo t2 h2 pp y4 = some (1, t3, h3) ∧ GO (e + 1) (60 * (e + 1)) t3 ∧ HS h3) := by
  obtain ⟨r, t1, h1, d1, d2, d3, d4⟩ := does_e he h hH pp v
  obtain ⟨u, np, nq, hR, hS, hN, hX, h4, hU⟩ := d3
  have hp := hN.1
  have hq := hN.2.1
  obtain ⟨x, lx, ex⟩ := low_e (v >>> ((3 : Int32) &&& 31)) (n := 4) (by omega) (by omega)
  obtain ⟨y, ly, ey⟩ := low_e (v >>> ((5 : Int32) &&& 31)) (n := 3) (by omega) (by omega)
  obtain ⟨z, lz, ez⟩ := low_e (v >>> ((7 : Int32) &&& 31)) (n := 9) (by omega) (by omega)
  have hoth : ((nI x + (1 : Int32)) + nI y) - ((nI x + (1 : Int32)) + nI y) / 4 * 4 = nI ((x + 1 + y) % 4) := by
    rw [show (4 : Int32) = nI 4 from rfl, nI_1, nI_add, pk_rem (by omega) (by omega) (by omega)]
  have a1 : (1 : Int32) + nI z = nI (1 + z) := nI_add 1 z
  obtain ⟨t2, h2, i1, i2, i3⟩ := insult_so hR (by omega) hS hN hX (i := x) (j := (x + 1 + y) % 4) (by omega) (by omega) (by omega) (r0 := nI (1 + z)) (by rw [nI_toInt (by omega)]; omega) d4 pp
  refine ⟨nI x, r, nI y, nI z, nI nq, t1, t2, h1, h2, ex, d1, d2, quarrels_so (by omega) hR hS hN hX h1 pp, persons_so hR hS hN hX h1 pp, ey, ez, ?_, ct_2 i2 hN h2 pp, ⟨u, np, nq, i2, hS, hN, hX, h4, hU⟩, i3, fun hc => ?_⟩
  · rw [hoth, a1]; exact i1
  · have hnq : 0 < nq := Nat.pos_of_ne_zero (fun d => hc (by rw [d, nI_0]; decide))
    obtain ⟨k, lk, ek⟩ := low_e (v >>> ((4 : Int32) &&& 31)) hnq (by omega)
    obtain ⟨t3, h3, s1, s2, s3⟩ := time_so i2 hS hN hX (by omega) lk i3 pp
    exact ⟨nI k, t3, h3, ek, s1, ⟨u, np, nq, s2, hS, hN, hX, h4, hU⟩, s3⟩
/-- the start -/
def PV (k : Nat) (t : TT) : Prop := ∃ u, RT 0 t u ∧ US u ∧ UN u k 0 ∧ XI u k 0 ∧ (u 4).toInt ≤ 0
theorem person2_e {t : TT} {hh : HH} {k : Nat} (hk : k < 4) (h : PV k t) (hH : HS hh) (pp : PP) (a b : Int32) : ∃ x y t' hh', f_L_low a 10 = some x ∧ f_L_low b 10 = some y ∧ f_X3_person t hh pp x y = some (nI k, t', hh') ∧ PV (k + 1) t' ∧ HS hh' := by
  obtain ⟨u, hR, hS, hN, hX, h4⟩ := h
  obtain ⟨x, lx, ex⟩ := low_e a (n := 10) (by omega) (by omega)
  obtain ⟨y, ly, ey⟩ := low_e b (n := 10) (by omega) (by omega)
  rcases op2_person hR hS hN hX (show x ≤ 9 by omega) (show y ≤ 9 by omega) with ⟨c, _⟩ | ⟨t1, u1, g, R1, S1, N1, X1, g4⟩
  · omega
  · obtain ⟨h1, k1, k2, _⟩ := chg3 hH g
    exact ⟨nI x, nI y, t1, h1, ex, ey, k2, ⟨u1, R1, S1, N1, X1, by rw [g4]; exact h4⟩, k1⟩
theorem PV_GO {t : TT} (h : PV 4 t) : GO 0 (60 * (0 : Nat)) t := by
  obtain ⟨u, hR, hS, hN, hX, h4⟩ := h
  exact ⟨u, 4, 0, hR, hS, hN, hX, Nat.le_refl 4, by omega⟩
theorem init_e : ∃ t0, f_X2_init = some t0 ∧ PV 0 t0 ∧ HS ((0, 0, fun _ => t0) : HH) := by
  have R0 : RT 0 ((0, 31, 0, 0, 0, fun _ => 0) : TT) (upd (fun _ => 0) 46 31) := by
    refine ⟨?_, ?_, ?_, ?_, ⟨fun j hj => ?_, fun w k hw hk => ?_, fun w k hw hk => ?_⟩, 0, Nat.le_refl 0, nI_0.symm, ?_, fun r w hr hw => by omega⟩
    · rw [pk_un (by decide)]
    · rw [pk_us]
    · rw [pk_un (by decide)]
    · rw [pk_un (by decide)]
    · rw [pk_un (by omega)]
    · rw [pk_un (by omega)]
    · rw [pk_un (by omega)]
    · rw [pk_un (by decide)]; exact nI_0.symm
  obtain ⟨t1, w1, R1⟩ := x2_ws R0 (j := 0) (by decide) 12
  obtain ⟨t2, w2, R2⟩ := x2_ws R1 (j := 1) (by decide) 24
  obtain ⟨t3, w3, R3⟩ := x2_ws R2 (j := 2) (by decide) 72
  obtain ⟨t4, w4, R4⟩ := x2_ws R3 (j := 3) (by decide) 100
  refine ⟨t4, ?_, ⟨_, R4, ?_, ⟨by decide, by decide, ?_, ?_, fun k hk => absurd hk (Nat.not_lt_zero k), fun k hk => absurd hk (Nat.not_lt_zero k)⟩, ⟨fun k hk => absurd hk (Nat.not_lt_zero k), fun k hk => absurd hk (Nat.not_lt_zero k), 0, by decide, ?_, fun r hr => absurd hr (Nat.not_lt_zero r)⟩, ?_⟩, 0, 0, by decide, by decide, nI_0.symm, nI_0.symm⟩
  · unfold f_X2_init
    have e0 : f_X2_write ((0, 31, 0, 0, 0, fun _ => 0) : TT) 0 0 12 = some t1 := w1
    have e1 : f_X2_write t1 0 1 24 = some t2 := w2
    have e2 : f_X2_write t2 0 2 72 = some t3 := w3
    have e3 : f_X2_write t3 0 3 100 = some t4 := w4
    rw [ob e0, ob e1, ob e2, ob e3]
  · show US (upd (upd (upd (upd (upd (fun _ => 0) 46 31) 0 12) 1 24) 2 72) 3 100)
    unfold US
    decide
  · show upd (upd (upd (upd (upd (fun _ => 0) 46 31) 0 12) 1 24) 2 72) 3 100 5 = nI 0
    decide
  · show upd (upd (upd (upd (upd (fun _ => 0) 46 31) 0 12) 1 24) 2 72) 3 100 47 = nI 0
    decide
  · show upd (upd (upd (upd (upd (fun _ => 0) 46 31) 0 12) 1 24) 2 72) 3 100 144 = nI 0
    decide
  · show (upd (upd (upd (upd (upd (fun _ => 0) 46 31) 0 12) 1 24) 2 72) 3 100 4).toInt ≤ 0
    decide

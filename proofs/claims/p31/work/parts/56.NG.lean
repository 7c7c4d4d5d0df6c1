/-! told hours are tried; an insult is tried -/
section TF
variable {B : Nat} {t : TT} {u : Nat → Int32} {np nq : Nat}
theorem blk1 {pp : PP} {k i j : Nat} {al : Fin 32} (hS : US u) (hN : UN u np nq) (hX : XI u np nq) (hk : k < nq) (h0 : qv u k 4 = 0) (hi : i < np) (hj : j < np) (e0 : qv u k 0 = nI i) (e1 : qv u k 1 = nI j) (ea : u 46 = nI al.1) (hU : (u 4).toInt ≤ 9900) {x1 : Int32} (hx : 0 < x1.toInt → (NE u nq k i j al.1 x1.toInt ∧ ∀ z : Int, 0 ≤ z → z < x1.toInt → ¬ NE u nq k i j al.1 z)) (hR : RT B t u) {hh : HH} (hH : HS hh) :
    ∃ t' hh', ((if x1 ≤ 0 then some ((1 : Int32), t, hh) else (if (99 : Int32) ≤ x1 then some ((1 : Int32), t, hh) else (((if x1 = (1 : Int32) then some ((0 : Int32), t, hh) else ((f_X3_pass t hh pp (x1 - (1 : Int32))).bind fun x78 => some (x78.1, x78.2.1, x78.2.2))) : Option (Int32 × TT × HH)).bind fun v53 => (((if (1 : Int32) = 0 then some (0 : Int32) else (if v53.1 < 0 then some (1 : Int32) else ((f_X3_firstWay v53.2.1 v53.2.2 pp (nI k)).bind fun x74 => (if x74 = (-6 : Int32) then some (1 : Int32) else some (0 : Int32))))) : Option (Int32)).bind fun v54 => (((if x1 ≤ (1 : Int32) then some ((0 : Int32), v53.2.1, v53.2.2) else (if v53.1 < 0 then some ((0 : Int32), v53.2.1, v53.2.2) else ((f_X3_undo v53.2.1 v53.2.2 pp).bind fun x70 => some (x70.1, x70.2.1, x70.2.2)))) : Option (Int32 × TT × HH)).bind fun v55 => ((f_X3_pass v55.2.1 v55.2.2 pp x1).bind fun x56 => (((if v54 = 0 then some (0 : Int32) else (if v55.1 < 0 then some (0 : Int32) else (if x56.1 < 0 then some (1 : Int32) else ((f_X3_firstWay x56.2.1 x56.2.2 pp (nI k)).bind fun x65 => (if x65 < 0 then some (0 : Int32) else some (1 : Int32)))))) : Option (Int32)).bind fun v58 => (if x56.1 < 0 then some (v58, x56.2.1, x56.2.2) else ((f_X3_undo x56.2.1 x56.2.2 pp).bind fun x60 => some (v58, x60.2.1, x60.2.2)))))))))) : Option (Int32 × TT × HH)) = some ((1 : Int32), t', hh') ∧ RT B t' u ∧ HS hh' := by
  by_cases c0 : x1 ≤ 0
  · exact ⟨t, hh, by rw [if_pos c0], hR, hH⟩
  by_cases c9 : (99 : Int32) ≤ x1
  · exact ⟨t, hh, by rw [if_neg c0, if_pos c9], hR, hH⟩
  have d0 := mt ti_le.2 c0
  have d9 := mt ti_le.2 c9
  rw [ti_0] at d0
  rw [show (99 : Int32).toInt = 99 from by decide] at d9
  obtain ⟨n, rfl, n1, n2⟩ : ∃ n : Nat, x1 = nI n ∧ 1 ≤ n ∧ n ≤ 98 := ⟨x1.toInt.toNat, (nI_toNat (by omega) (by omega)).symm, by omega, by omega⟩
  have en : (nI n).toInt = (n : Int) := nI_toInt (by omega)
  rw [en] at hx
  obtain ⟨y1, y2⟩ := hx (by omega)
  rw [if_neg c0, if_neg c9]
  by_cases m1 : n = 1
  · subst m1
    have c1 : nI 1 = 1 := rfl
    obtain ⟨i', j', al', W, hi', hj', _, e0', e1', ea', hW, hne, _⟩ := NE_now hR hS hN hk h0
    obtain rfl : i' = i := nI_inj (by have := hN.1; omega) (by have := hN.1; omega) (e0'.symm.trans e0)
    obtain rfl : j' = j := nI_inj (by have := hN.1; omega) (by have := hN.1; omega) (e1'.symm.trans e1)
    have hal : al'.1 = al.1 := nI_inj (by omega) (by omega) (ea'.symm.trans ea)
    rw [hal] at hne
    obtain ⟨F0, f1, f2, f3⟩ := first_iff hR hN hk hW hh pp
    have hF0 : F0 = -6 := f3 (Classical.byContradiction (fun c => y2 0 (by omega) (by omega) (hne.1 c)))
    obtain ⟨r, t1, h9, F, v, p1, p2, ⟨g1, g2, g3⟩, _, z, t2, h8, u1, u2, u3, u4⟩ := later_e hR hS hN hX hk h0 hi hj e0 e1 ea (a := 1) (by omega) (by omega) (by omega) hH pp
    refine ⟨t2, h8, ?_, u4, u3⟩
    rw [if_pos c1, ob rfl]
    dsimp only
    rw [if_neg n10, if_neg (by decide), ob f1, if_pos hF0, ob rfl, if_pos (by decide), ob rfl]
    dsimp only
    rw [ob p1]
    dsimp only
    rw [if_neg n10, if_neg (by decide), if_neg p2, ob g1, if_neg (fun c => g2.1 c y1), ob rfl, if_neg p2, ob u1]
  · have c1 : ¬ nI n = 1 := fun c => m1 (nI_inj (b := 1) (by omega) (by omega) c)
    have c2 : ¬ nI n ≤ 1 := by rw [ti_le, ti_1, en]; omega
    have es : nI n - 1 = nI (n - 1) := by
      obtain ⟨n', rfl⟩ : ∃ n', n = n' + 1 := ⟨n - 1, by omega⟩
      exact nI_pred n'
    obtain ⟨r, t1, h9, F, v, p1, p2, ⟨g1, g2, g3⟩, _, z, t2, h8, u1, u2, u3, u4⟩ := later_e hR hS hN hX hk h0 hi hj e0 e1 ea (a := n - 1) (by omega) (by omega) (by omega) hH pp
    obtain ⟨r', t1', h9', F', v', p1', p2', ⟨g1', g2', g3'⟩, _, z', t2', h8', u1', u2', u3', u4'⟩ := later_e u4 hS hN hX hk h0 hi hj e0 e1 ea (a := n) (by omega) (by omega) (by omega) u3 pp
    refine ⟨t2', h8', ?_, u4', u3'⟩
    rw [if_neg c1, es, ob p1, ob rfl]
    dsimp only
    rw [if_neg n10, if_neg p2, ob g1, if_pos (g3 (y2 _ (by omega) (by omega))), ob rfl, if_neg c2, if_neg p2, ob u1, ob rfl]
    dsimp only
    rw [ob p1']
    dsimp only
    rw [if_neg n10, if_neg u2, if_neg p2', ob g1', if_neg (fun c => g2'.1 c y1), ob rfl, if_neg p2', ob u1']
theorem blk2 {pp : PP} {k i j : Nat} {al : Fin 32} (hS : US u) (hN : UN u np nq) (hX : XI u np nq) (hk : k < nq) (h0 : qv u k 4 = 0) (hi : i < np) (hj : j < np) (e0 : qv u k 0 = nI i) (e1 : qv u k 1 = nI j) (ea : u 46 = nI al.1) (hU : (u 4).toInt ≤ 9900) {x3 : Int32} (hx : 0 < x3.toInt → (DU u nq k i j al.1 x3.toInt ∧ ∀ z : Int, 0 ≤ z → z < x3.toInt → ¬ DU u nq k i j al.1 z)) (hR : RT B t u) {hh : HH} (hH : HS hh) :
    ∃ t' hh', ((if x3 ≤ 0 then ((gb (1 : Int32)).bind fun x15 => some (x15, t, hh)) else (if (99 : Int32) ≤ x3 then ((gb (1 : Int32)).bind fun x18 => some (x18, t, hh)) else (((if x3 = (1 : Int32) then some ((0 : Int32), t, hh) else ((f_X3_pass t hh pp (x3 - (1 : Int32))).bind fun x49 => some (x49.1, x49.2.1, x49.2.2))) : Option (Int32 × TT × HH)).bind fun v20 => (((if (1 : Int32) = 0 then some (0 : Int32) else (if v20.1 < 0 then some (1 : Int32) else ((f_X3_why v20.2.1 v20.2.2 pp (nI k)).bind fun x45 => (if x45 ≤ 0 then some (0 : Int32) else some (1 : Int32))))) : Option (Int32)).bind fun v21 => (((if x3 ≤ (1 : Int32) then some ((0 : Int32), v20.2.1, v20.2.2) else (if v20.1 < 0 then some ((0 : Int32), v20.2.1, v20.2.2) else ((f_X3_undo v20.2.1 v20.2.2 pp).bind fun x41 => some (x41.1, x41.2.1, x41.2.2)))) : Option (Int32 × TT × HH)).bind fun v22 => ((f_X3_pass v22.2.1 v22.2.2 pp x3).bind fun x23 => (((if v21 = 0 then some (0 : Int32) else (if v22.1 < 0 then some (0 : Int32) else (if x23.1 < 0 then some (1 : Int32) else ((f_X3_why x23.2.1 x23.2.2 pp (nI k)).bind fun x36 => (if x36 = 0 then some (1 : Int32) else some (0 : Int32)))))) : Option (Int32)).bind fun v25 => (if x23.1 < 0 then ((gb v25).bind fun x27 => some (x27, x23.2.1, x23.2.2)) else ((f_X3_undo x23.2.1 x23.2.2 pp).bind fun x29 => ((gb v25).bind fun x31 => some (x31, x29.2.1, x29.2.2))))))))))) : Option (Int32 × TT × HH)) = some ((1 : Int32), t', hh') ∧ RT B t' u ∧ HS hh' := by
  by_cases c0 : x3 ≤ 0
  · exact ⟨t, hh, by rw [if_pos c0, ob gb1], hR, hH⟩
  by_cases c9 : (99 : Int32) ≤ x3
  · exact ⟨t, hh, by rw [if_neg c0, if_pos c9, ob gb1], hR, hH⟩
  have d0 := mt ti_le.2 c0
  have d9 := mt ti_le.2 c9
  rw [ti_0] at d0
  rw [show (99 : Int32).toInt = 99 from by decide] at d9
  obtain ⟨n, rfl, n1, n2⟩ : ∃ n : Nat, x3 = nI n ∧ 1 ≤ n ∧ n ≤ 98 := ⟨x3.toInt.toNat, (nI_toNat (by omega) (by omega)).symm, by omega, by omega⟩
  have en : (nI n).toInt = (n : Int) := nI_toInt (by omega)
  rw [en] at hx
  obtain ⟨y1, y2⟩ := hx (by omega)
  have pos : ∀ v : Int32, ¬ v < 0 → ¬ v = 0 → ¬ v ≤ 0 := by
    intro v a b c
    have a' := mt ti_lt.2 a
    have b' := mt ti_eq.2 b
    have c' := ti_le.1 c
    omega
  rw [if_neg c0, if_neg c9]
  by_cases m1 : n = 1
  · subst m1
    have c1 : nI 1 = 1 := rfl
    obtain ⟨i', j', al', W, hi', hj', _, e0', e1', ea', hW, hne, _⟩ := NE_now hR hS hN hk h0
    obtain rfl : i' = i := nI_inj (by have := hN.1; omega) (by have := hN.1; omega) (e0'.symm.trans e0)
    obtain rfl : j' = j := nI_inj (by have := hN.1; omega) (by have := hN.1; omega) (e1'.symm.trans e1)
    have hal : al'.1 = al.1 := nI_inj (by omega) (by omega) (ea'.symm.trans ea)
    rw [hal] at hne
    obtain ⟨v0, f1, f2, f3⟩ := why_iff hR hS hN hk h0 hW hne hh pp
    have hv0 : ¬ v0 ≤ 0 := pos v0 f3 (fun c => y2 0 (by omega) (by omega) (f2.1 c))
    obtain ⟨r, t1, h9, F, v, p1, p2, _, ⟨g1, g2, g3⟩, z, t2, h8, u1, u2, u3, u4⟩ := later_e hR hS hN hX hk h0 hi hj e0 e1 ea (a := 1) (by omega) (by omega) (by omega) hH pp
    refine ⟨t2, h8, ?_, u4, u3⟩
    rw [if_pos c1, ob rfl]
    dsimp only
    rw [if_neg n10, if_neg (by decide), ob f1, if_neg hv0, ob rfl, if_pos (by decide), ob rfl]
    dsimp only
    rw [ob p1]
    dsimp only
    rw [if_neg n10, if_neg (by decide), if_neg p2, ob g1, if_pos (g2.2 y1), ob rfl, if_neg p2, ob u1, ob gb1]
  · have c1 : ¬ nI n = 1 := fun c => m1 (nI_inj (b := 1) (by omega) (by omega) c)
    have c2 : ¬ nI n ≤ 1 := by rw [ti_le, ti_1, en]; omega
    have es : nI n - 1 = nI (n - 1) := by
      obtain ⟨n', rfl⟩ : ∃ n', n = n' + 1 := ⟨n - 1, by omega⟩
      exact nI_pred n'
    obtain ⟨r, t1, h9, F, v, p1, p2, _, ⟨g1, g2, g3⟩, z, t2, h8, u1, u2, u3, u4⟩ := later_e hR hS hN hX hk h0 hi hj e0 e1 ea (a := n - 1) (by omega) (by omega) (by omega) hH pp
    obtain ⟨r', t1', h9', F', v', p1', p2', _, ⟨g1', g2', g3'⟩, z', t2', h8', u1', u2', u3', u4'⟩ := later_e u4 hS hN hX hk h0 hi hj e0 e1 ea (a := n) (by omega) (by omega) (by omega) u3 pp
    refine ⟨t2', h8', ?_, u4', u3'⟩
    rw [if_neg c1, es, ob p1, ob rfl]
    dsimp only
    rw [if_neg n10, if_neg p2, ob g1, if_neg (pos v g3 (fun c => y2 _ (by omega) (by omega) (g2.1 c))), ob rfl, if_neg c2, if_neg p2, ob u1, ob rfl]
    dsimp only
    rw [ob p1']
    dsimp only
    rw [if_neg n10, if_neg u2, if_neg p2', ob g1', if_pos (g2'.2 y1), ob rfl, if_neg p2', ob u1', ob gb1]
theorem time_so (hR : RT B t u) (hS : US u) (hN : UN u np nq) (hX : XI u np nq) (hU : (u 4).toInt ≤ 9900) {k : Nat} (hk : k < nq) {hh : HH} (hH : HS hh) (pp : PP) : ∃ t' hh', f_L_isTimeSo t hh pp (nI k) = some (1, t', hh') ∧ RT B t' u ∧ HS hh' := by
  have hq := hN.2.1
  unfold f_L_isTimeSo
  by_cases h0 : qv u k 4 = 0
  · obtain ⟨i, j, al, W, hi, hj, _, e0, e1, ea, hW, hne, h3⟩ := NE_now hR hS hN hk h0
    obtain ⟨x1, a1, a2, a3⟩ := opens2_e hR hS hN hk h0 ea hW hne hq hh pp
    obtain ⟨x3, b1, b2, b3⟩ := due3_e hR hS hN hk h0 hi hj e0 e1 ea hW hne h3 hh pp
    obtain ⟨F, f1, f2, f3⟩ := first_iff hR hN hk hW hh pp
    obtain ⟨v, v1, v2, v3⟩ := why_iff hR hS hN hk h0 hW hne hh pp
    have q8 : (if x1 = 0 then some (1 : Int32) else some (0 : Int32)) = some (if F < 0 then 0 else 1) := by
      by_cases c : F < 0
      · rw [if_pos c, if_neg (fun d => hne.2 (a2.1 d) (f2.1 c))]
      · rw [if_neg c, if_pos (a2.2 (hne.1 (fun d => c (f2.2 d))))]
    have q11 : (if F < 0 then some (0 : Int32) else some (1 : Int32)) = some (if F < 0 then 0 else 1) := by split <;> rfl
    have q81 : (if x3 = 0 then some (1 : Int32) else some (0 : Int32)) = some (if v = 0 then 1 else 0) := by
      by_cases c : v = 0
      · rw [if_pos c, if_pos (b2.2 (v2.1 c))]
      · rw [if_neg c, if_neg (fun d => c (v2.2 (b2.1 d)))]
    have q84 : (if v = 0 then some (1 : Int32) else some (0 : Int32)) = some (if v = 0 then 1 else 0) := by split <;> rfl
    rw [ob a1, ob b1, ob (qr_4 hR hN hk hh pp), if_pos h0, ob q8, ob f1, ob q11, if_pos rfl, ob q81, ob v1, ob q84, if_pos rfl, ob rfl]
    obtain ⟨t1, hh1, c1, c2, c3⟩ := blk1 (pp := pp) hS hN hX hk h0 hi hj e0 e1 ea hU a3 hR hH
    obtain ⟨t2, hh2, d1, d2, d3⟩ := blk2 (pp := pp) hS hN hX hk h0 hi hj e0 e1 ea hU b3 c2 c3
    refine ⟨t2, hh2, ?_, d2, d3⟩
    rw [ob c1]
    exact d1
  · have a1 : f_X3_opensIn t hh pp (nI k) = some (-5) := by rw [(hasQ9 hR hN hk hh pp).1, if_neg h0]
    have b1 : f_X3_dueIn t hh pp (nI k) = some (-5) := by rw [(hasQ9 hR hN hk hh pp).2, if_neg h0]
    refine ⟨t, hh, ?_, hR, hH⟩
    rw [ob a1, ob b1, ob (qr_4 hR hN hk hh pp), if_neg h0, if_pos rfl, if_pos rfl]
theorem insult_so (hR : RT B t u) (hB : B < 900000) (hS : US u) (hN : UN u np nq) (hX : XI u np nq) {i j : Nat} (hi : i < np) (hj : j < np) (hij : i ≠ j) {r0 : Int32} (hr : 1 ≤ r0.toInt ∧ r0.toInt ≤ 9) {hh : HH} (hH : HS hh) (pp : PP) : ∃ t' hh', f_L_isInsultSo t hh pp (nI i) (nI j) r0 = some (1, t', hh') ∧ RT B t' u ∧ HS hh' := by
  have hp := hN.1
  have hq := hN.2.1
  obtain ⟨a, b, c, d, e, g1, g2, g3, g4, g5, g6⟩ := ways2_e hR hS hN hi hj r0 0
  obtain ⟨al, ea⟩ := decide_u46 hS
  rw [ea] at g6
  obtain ⟨W, eW⟩ := wz_32 a b c d e al
  have hin : f_X3_ifInsulted t hh pp (nI i) (nI j) r0 = some (nI W.1) := by
    unfold f_X3_ifInsulted
    rw [ob (err0 hR hN hi hj hij hr), if_pos rfl, ob g6, eW]
  have hW0 : ¬ nI W.1 < 0 := nI_pos (by omega)
  unfold f_L_isInsultSo
  rw [ob hin]
  rcases op2_insult hR (by omega) hS hN hX hi hj hij hr with h | h | ⟨t1, u1, h, R1, S1, N1, X1, NQ1⟩
  · obtain ⟨h1, k1, k2, _⟩ := chg3 hH h
    have hx : f_X3_insult t hh pp (nI i) (nI j) r0 = some (-5, t, h1) := k2
    refine ⟨t, h1, ?_, hR, k1⟩
    rw [ob hx]
    dsimp only
    rw [if_neg (by decide), if_pos rfl, if_neg hW0]
  · obtain ⟨h1, k1, k2, _⟩ := chg3 hH h
    have hx : f_X3_insult t hh pp (nI i) (nI j) r0 = some (-4, t, h1) := k2
    refine ⟨t, h1, ?_, hR, k1⟩
    rw [ob hx]
    dsimp only
    rw [if_neg (by decide), if_neg (by decide), if_pos rfl, if_neg hW0]
  · obtain ⟨h1, k1, k2, k3⟩ := chg3 hH h
    have hx : f_X3_insult t hh pp (nI i) (nI j) r0 = some (nI nq, t1, h1) := k2
    obtain ⟨z, t2, h8, w1, w2, w3, w4⟩ := k3 (fun d => d.1 (nI_pos' (by omega))) t1 pp
    obtain ⟨n1, n2, n3, n4, n5, n6, n7, n8, n9, m, m1, m2, m3⟩ := NQ1
    obtain ⟨i', j', al', a', b', c', d', e', hi', hj', _, e0', e1', ea', g1', g2', g3', g4', g5', g6'⟩ := open_ways R1 S1 N1 (k := nq) (by omega) n6
    obtain rfl : i' = i := nI_inj (by omega) (by omega) (e0'.symm.trans n2)
    obtain rfl : j' = j := nI_inj (by omega) (by omega) (e1'.symm.trans n3)
    have pe : ∀ x w, x < 10 → w < 4 → pv u1 x w = pv u x w := fun x w hx hw => n7 _ (by omega)
    have hal : al' = al := Fin.ext (nI_inj (by omega) (by omega) (ea'.symm.trans ((n7 46 (by omega)).trans ea)))
    have sbE : SB u1 i' j' r0 ↔ SB u i' j' r0 := by
      unfold SB
      rw [pe i' 2 (by omega) (by omega), pe j' 2 (by omega) (by omega)]
      constructor
      · rintro ⟨x, y, hx, hy, z1, z2, z3, z4, z5, z6⟩
        rw [pe x 1 hx (by omega), pe y 1 hy (by omega)] at z6
        exact ⟨x, y, hx, hy, z1, z2, z3, z4, z5, z6⟩
      · rintro ⟨x, y, hx, hy, z1, z2, z3, z4, z5, z6⟩
        refine ⟨x, y, hx, hy, z1, z2, z3, z4, z5, ?_⟩
        rw [pe x 1 hx (by omega), pe y 1 hy (by omega)]
        exact z6
    have obE : OB u1 i' j' 0 ↔ OB u i' j' 0 := by
      unfold OB
      rw [pe i' 3 (by omega) (by omega), pe j' 3 (by omega) (by omega), n7 4 (by omega)]
    have pcE : PC u1 (nq + 1) i' j' 0 ↔ PC u nq i' j' 0 := by
      unfold PC
      rw [n7 4 (by omega), n7 3 (by omega)]
      constructor
      · rintro ⟨q, hq', z1, z2, z3⟩
        by_cases c : q < nq
        · rw [n1 q c 4 (by decide)] at z1
          rw [n1 q c 0 (by decide), n1 q c 1 (by decide)] at z2
          rw [n1 q c 7 (by decide)] at z3
          exact ⟨q, c, z1, z2, z3⟩
        · obtain rfl : q = nq := by omega
          rw [n6] at z1
          exact absurd z1 (by decide)
      · rintro ⟨q, c, z1, z2, z3⟩
        refine ⟨q, by omega, (n1 q c 4 (by decide)).trans z1, ?_, ?_⟩
        · rw [n1 q c 0 (by decide), n1 q c 1 (by decide)]; exact z2
        · rw [n1 q c 7 (by decide)]; exact z3
    rw [n4] at g1' g2' g3'
    rw [pe i' 0 (by omega) (by omega)] at g1'
    rw [n5, n7 4 (by omega), n7 0 (by omega), Int32.sub_self] at g3'
    have be : ∀ {x y : Bool} {P : Prop}, (x = true ↔ P) → (y = true ↔ P) → x = y := fun h1 h2 => Bool.eq_iff_iff.2 (h1.trans h2.symm)
    obtain rfl : a' = a := be g1' g1
    obtain rfl : b' = b := be (g2'.trans sbE) g2
    obtain rfl : c' = c := be g3' g3
    obtain rfl : d' = d := be (g4'.trans obE) g4
    obtain rfl : e' = e := be (g5'.trans pcE) g5
    rw [hal, eW] at g6'
    have r3 := rec_in (by omega) R1 m2 m3 m1 h1 pp
    rw [nI_0, n8, n9] at r3
    have q3 := qr_3 R1 N1 (k := nq) (by omega) h1 pp
    rw [n5, n7 4 (by omega), Int32.sub_self] at q3
    refine ⟨t2, h8, ?_, w4 B u hR, w3⟩
    rw [ob hx]
    dsimp only
    rw [if_pos (nI_pos' (by omega)), ob (qr_7 R1 N1 (k := nq) (by omega) g6' h1 pp), if_pos rfl, ob r3.1, if_pos rfl, ob r3.2.2, if_pos rfl, ob q3, if_pos rfl, ob rfl, ob w1, if_neg n10]
    dsimp only
    rw [if_neg w2, ob (ct_2 (w4 B u hR) hN h8 pp), if_pos rfl]
end TF

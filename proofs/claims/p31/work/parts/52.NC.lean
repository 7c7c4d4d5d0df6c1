/-! the ways as the law tells them; all quarrels are so -/
abbrev tw (a b c d : Bool) : Int32 := ((((if a then 1 else 0) + (if b then 2 else 0)) + (if c then 4 else 0)) + (if d then 8 else 0))
theorem tw_ok : ∀ al : Fin 32, ∀ a b c d e e' : Bool, (e' = true → e = true) → (if (wz a b c d e (nI al.1) &&& (15 : Int32)) = (((tw a b c d + (if e' then 16 else 0)) &&& nI al.1) &&& (15 : Int32)) then (if (wz a b c d e (nI al.1) &&& (16 : Int32)) < (((tw a b c d + (if e' then 16 else 0)) &&& nI al.1) &&& (16 : Int32)) then some (0 : Int32) else (if ((wz a b c d e (nI al.1) &&& (16 : Int32)) &&& ((31 : Int32) - nI al.1)) = 0 then some (1 : Int32) else some (0 : Int32))) else some (0 : Int32)) = some (1 : Int32) := by decide +kernel
theorem first32 : ∀ W : Fin 32, ((f_X2_firstOf (nI W.1)).bind fun x18 => (if nI W.1 = 0 then (if x18 = (-6 : Int32) then some (1 : Int32) else some (0 : Int32)) else (if x18 < 0 then some (0 : Int32) else (if ((nI W.1 >>> (x18 &&& 31)) &&& (1 : Int32)) = (1 : Int32) then (if (nI W.1 &&& (((1 : Int32) <<< (x18 &&& 31)) - (1 : Int32))) = 0 then some (1 : Int32) else some (0 : Int32)) else some (0 : Int32))))) = some (1 : Int32) := by decide +kernel
section TB
variable {B : Nat} {t : TT} {u : Nat → Int32} {np nq : Nat}
theorem lways_loop (hB : B < 1000000) (hR : RT B t u) (hS : US u) (hN : UN u np nq) (hX : XI u np nq) (hh : HH) (pp : PP) (i j : Nat) (but y9 : Int32) {m : Nat} (hm : m ≤ 12) (h1 : u 144 = nI m) (hv : ∀ r, r < m → VE u nq r) : ∀ (d k n : Nat) (y : Bool), k + d = m → d < n →
    ∃ e' : Bool, f_L_ways_L164 t hh pp (nI i) (nI j) but y9 n (if y then 1 else 0) (nI k) = some (if e' then 1 else 0) ∧ (e' = true → y = true ∨ PC u nq i j 0) := by
  intro d
  induction d with
  | zero =>
    intro k n y hk hn
    obtain ⟨n, rfl⟩ : ∃ n', n = n' + 1 := ⟨n - 1, by omega⟩
    refine ⟨y, ?_, Or.inl⟩
    rw [f_L_ways_L164, ob (rec_out hB hR hm h1 (show m ≤ k by omega) (by omega) hh pp 0), if_pos (by decide)]
  | succ d ih =>
    intro k n y hk hn
    obtain ⟨n, rfl⟩ : ∃ n', n = n' + 1 := ⟨n - 1, by omega⟩
    obtain ⟨r0, r1, r2⟩ := rec_in hB hR hm h1 (show k < m by omega) hh pp
    obtain ⟨v1, v2⟩ := hv k (by omega)
    have i0 := ih (k + 1) n false (by omega) (by omega)
    have i1 := ih (k + 1) n true (by omega) (by omega)
    rw [if_neg (by decide)] at i0
    rw [if_pos rfl] at i1
    rw [f_L_ways_L164, ob r0, if_neg (by rw [ti_lt, ti_0]; omega), if_neg (by rw [show (12 : Int32) = nI 12 from rfl]; exact nI_ge (by omega) (by decide)), ob r2, ob r0, nI_1]
    cases y with
    | true =>
      have e : ∀ X : Option Int32, (∃ z, X = some z) → ∀ (A C : Int32 → Option Int32), (X.bind fun v26 => (if (if true = true then (1 : Int32) else 0) = 0 then A v26 else C v26)) = (X.bind fun v26 => C v26) := by
        rintro X ⟨z, rfl⟩ A C
        show (if (if true = true then (1 : Int32) else 0) = 0 then A z else C z) = C z
        rw [if_pos rfl, if_neg n10]
      obtain ⟨e', g1, g2⟩ := i1
      refine ⟨e', ?_, fun _ => Or.inl rfl⟩
      by_cases c1 : ev u k 0 = 1
      · by_cases c2 : ev u k 2 = but
        · rw [if_pos c1, if_pos c2, ob rfl, if_neg (by decide), g1]
        · rw [if_pos c1, if_neg c2, ob rfl, if_neg (by decide), g1]
      · rw [if_neg c1, ob rfl, if_neg (by decide), g1]
    | false =>
      have skip : ∃ e' : Bool, f_L_ways_L164 t hh pp (nI i) (nI j) but y9 n 0 (nI (k + 1)) = some (if e' then 1 else 0) ∧ (e' = true → false = true ∨ PC u nq i j 0) := i0
      by_cases c1 : ev u k 0 = 1
      · by_cases c2 : ev u k 2 = but
        · rw [if_pos c1, if_pos c2, ob rfl, if_pos (by decide), if_pos rfl]
          exact skip
        · obtain ⟨q, hq, e2, s1, s7⟩ := v2 c1
          have q7 := (hN.2.2.2.2.2 q hq).2.2.2
          rw [if_pos c1, if_neg c2, ob rfl, if_pos (by decide), if_neg n10, ob (ct_0 hR hh pp), ob r1, ob (ct_12 hR hh pp)]
          by_cases c3 : u 3 < u 4 - ev u k 1
          · rw [if_pos c3]
            exact skip
          · have hp : (u 4).toInt + 0 ≤ (qv u q 7).toInt + (u 3).toInt := by
              have e4 : (u 4 - qv u q 7).toInt = (u 4).toInt - (qv u q 7).toInt := ti_sub (by have := hS.2.2.2.2.1; omega) (by have := hS.2.2.2.2.1; omega)
              rw [← s7] at c3
              have := mt ti_lt.2 c3
              rw [e4] at this
              omega
            have yes : TH (nI i) (nI j) (qv u q 0) (qv u q 1) → ∃ e' : Bool, f_L_ways_L164 t hh pp (nI i) (nI j) but y9 n 1 (nI (k + 1)) = some (if e' then 1 else 0) ∧ (e' = true → false = true ∨ PC u nq i j 0) := by
              intro hth
              obtain ⟨e', g1, g2⟩ := i1
              exact ⟨e', g1, fun _ => Or.inr ⟨q, hq, s1, hth, hp⟩⟩
            rw [if_neg c3, e2, ob (qr_0 hR hN hq hh pp), ob (qr_1 hR hN hq hh pp), ob (qr_0 hR hN hq hh pp), ob (qr_1 hR hN hq hh pp)]
            by_cases d0 : qv u q 0 = nI i
            · rw [if_pos d0]
              by_cases d1 : qv u q 1 = nI j
              · rw [if_pos d1]
                exact yes (Or.inl ⟨d0.symm, d1.symm⟩)
              · rw [if_neg d1]
                by_cases d2 : qv u q 0 = nI j
                · rw [if_pos d2]
                  by_cases d3 : qv u q 1 = nI i
                  · rw [if_pos d3]
                    exact yes (Or.inr ⟨d3.symm, d2.symm⟩)
                  · rw [if_neg d3]; exact skip
                · rw [if_neg d2]; exact skip
            · rw [if_neg d0]
              by_cases d2 : qv u q 0 = nI j
              · rw [if_pos d2]
                by_cases d3 : qv u q 1 = nI i
                · rw [if_pos d3]
                  exact yes (Or.inr ⟨d3.symm, d2.symm⟩)
                · rw [if_neg d3]; exact skip
              · rw [if_neg d2]; exact skip
      · rw [if_neg c1, ob rfl, if_pos (by decide), if_pos rfl]
        exact skip
theorem lways_e (hB : B < 1000000) (hR : RT B t u) (hS : US u) (hN : UN u np nq) (hX : XI u np nq) (hh : HH) (pp : PP) {i j : Nat} (hi : i < np) (hj : j < np) (r sc but : Int32) (hr : 1 ≤ r.toInt ∧ r.toInt ≤ 9) {a b c d : Bool} (ha : a = true ↔ ¬ (9 : Int32) < pv u i 0 + r) (hb : b = true ↔ SB u i j r) (hc : c = true ↔ ¬ sc < u 0 * r) (hd : d = true ↔ OB u i j 0) :
    ∃ e' : Bool, (e' = true → PC u nq i j 0) ∧ f_L_ways t hh pp (nI i) (nI j) r sc but = some (tw a b c d + (if e' then 16 else 0)) := by
  have hp := hN.1
  obtain ⟨m, hm, h1, hv⟩ := hX.2.2
  have pi := hN.2.2.2.2.1 i hi
  have pj := hN.2.2.2.2.1 j hj
  unfold f_L_ways
  rw [ob (of_2 hR hN hi hh pp), ob (of_2 hR hN hj hh pp)]
  have v5 : (if pv u i 2 < 0 then some (0 : Int32) else (if pv u j 2 < 0 then some (0 : Int32) else (if pv u i 2 = pv u j 2 then some (0 : Int32) else (if pv u i 2 = nI j then some (0 : Int32) else (if pv u j 2 = nI i then some (0 : Int32) else ((f_X3_of t hh pp (pv u i 2) (1 : Int32)).bind fun x68 => ((f_X3_of t hh pp (pv u j 2) (1 : Int32)).bind fun x70 => (if (x68 + x70) < ((2 : Int32) * r) then some (0 : Int32) else some (1 : Int32))))))))) = some (if b then 1 else 0) := by
    have no : ¬ SB u i j r → (some 0 : Option Int32) = some (if b then 1 else 0) := fun h => by rw [if_neg (fun c => h (hb.1 c))]
    by_cases c1 : pv u i 2 < 0
    · rw [if_pos c1]
      exact no (fun ⟨x, y, hx, hy, _, _, _, e1, _⟩ => by rw [e1] at c1; exact nI_pos (by omega) c1)
    by_cases c2 : pv u j 2 < 0
    · rw [if_neg c1, if_pos c2]
      exact no (fun ⟨x, y, hx, hy, _, _, _, _, e2, _⟩ => by rw [e2] at c2; exact nI_pos (by omega) c2)
    obtain ⟨x, hx, ex⟩ : ∃ x, x < np ∧ pv u i 2 = nI x := by
      rcases pi.2.2.1 with h | h
      · rw [h] at c1; exact absurd (by decide) c1
      · exact h
    obtain ⟨y, hy, ey⟩ : ∃ y, y < np ∧ pv u j 2 = nI y := by
      rcases pj.2.2.1 with h | h
      · rw [h] at c2; exact absurd (by decide) c2
      · exact h
    rw [if_neg c1, if_neg c2]
    by_cases c3 : pv u i 2 = pv u j 2
    · rw [if_pos c3]
      exact no (fun ⟨x', y', hx', hy', h1, _, _, e1, e2, _⟩ => h1 (nI_inj (by omega) (by omega) (e1.symm.trans (c3.trans e2))))
    by_cases c4 : pv u i 2 = nI j
    · rw [if_neg c3, if_pos c4]
      exact no (fun ⟨x', y', hx', hy', _, h2, _, e1, _⟩ => h2 (nI_inj (by omega) (by omega) (e1.symm.trans c4)))
    by_cases c5 : pv u j 2 = nI i
    · rw [if_neg c3, if_neg c4, if_pos c5]
      exact no (fun ⟨x', y', hx', hy', _, _, h3, _, e2, _⟩ => h3 (nI_inj (by omega) (by omega) (e2.symm.trans c5)))
    rw [if_neg c3, if_neg c4, if_neg c5, ex, ey, ob (of_1 hR hN hx hh pp), ob (of_1 hR hN hy hh pp)]
    by_cases c6 : pv u x 1 + pv u y 1 < 2 * r
    · rw [if_pos c6]
      exact no (fun ⟨x', y', hx', hy', _, _, _, e1, e2, h⟩ => by
        rw [nI_inj (a := x') (b := x) (by omega) (by omega) (e1.symm.trans ex), nI_inj (a := y') (b := y) (by omega) (by omega) (e2.symm.trans ey)] at h
        exact h c6)
    · rw [if_neg c6, if_pos (hb.2 ⟨x, y, by omega, by omega, fun c => c3 (by rw [ex, ey, c]), fun c => c4 (by rw [ex, c]), fun c => c5 (by rw [ey, c]), ex, ey, c6⟩)]
  have e8 : (pv u i 0 + r).toInt = (pv u i 0).toInt + r.toInt := ti_add (by have := pi.1; omega) (by have := pi.1; omega)
  have v8 : (if (10 : Int32) ≤ (pv u i 0 + r) then some (0 : Int32) else some (1 : Int32)) = some (if a then 1 else 0) := by
    have h8 : (10 : Int32) ≤ pv u i 0 + r ↔ (9 : Int32) < pv u i 0 + r := by
      rw [ti_le, ti_lt, e8, ti_9, show (10 : Int32).toInt = 10 from by decide]; omega
    by_cases c1 : (10 : Int32) ≤ pv u i 0 + r
    · rw [if_pos c1, if_neg (fun h => ha.1 h (h8.1 c1))]
    · rw [if_neg c1, if_pos (ha.2 (fun h => c1 (h8.2 h)))]
  have v9 : (if (if b then (1 : Int32) else 0) = 0 then some (0 : Int32) else some (2 : Int32)) = some (if b then 2 else 0) := by cases b <;> rfl
  have v12 : (if sc < (u 0 * r) then some (0 : Int32) else some (4 : Int32)) = some (if c then 4 else 0) := by
    by_cases c1 : sc < u 0 * r
    · rw [if_pos c1, if_neg (fun h => hc.1 h c1)]
    · rw [if_neg c1, if_pos (hc.2 c1)]
  have b1 := (ol_iff hS hN hi).1
  have b2 := (ol_iff hS hN hj).1
  have v17 : (if (ol u i + ol u j) ≤ 0 then some (0 : Int32) else some (8 : Int32)) = some (if d then 8 else 0) := by
    have es : (ol u i + ol u j).toInt = (ol u i).toInt + (ol u j).toInt := ti_add (by omega) (by omega)
    have ho := OB_iff hS hN hi hj (z := 0) (by omega)
    have h9 : ol u i + ol u j ≤ 0 ↔ ¬ OB u i j 0 := by
      rw [ti_le, es, ti_0, ho]; omega
    by_cases c1 : ol u i + ol u j ≤ 0
    · rw [if_pos c1, if_neg (fun h => h9.1 c1 (hd.1 h))]
    · rw [if_neg c1, if_pos (hd.2 (Classical.byContradiction (fun h => c1 (h9.2 h))))]
  obtain ⟨e', l1, l2⟩ := lways_loop hB hR hS hN hX hh pp i j but (tw a b c d) hm h1 hv m 0 2000 false (by omega) (by omega)
  rw [if_neg (by decide), nI_0] at l1
  refine ⟨e', fun h => (l2 h).elim (fun x => Bool.noConfusion x) id, ?_⟩
  rw [ob v5, ob (of_0 hR hN hi hh pp), ob v8, ob v9, ob (ct_9 hR hh pp), ob v12, ob (of_3 hR hN hi hh pp), ob (of_3 hR hN hj hh pp), ob v17, ob l1]
  cases e' <;> rfl
/-- the ways of an open quarrel, by truths -/
theorem open_ways (hR : RT B t u) (hS : US u) (hN : UN u np nq) {k : Nat} (hk : k < nq) (h0 : qv u k 4 = 0) : ∃ (i j : Nat) (al : Fin 32) (a b c d e : Bool), i < np ∧ j < np ∧ i ≠ j ∧ qv u k 0 = nI i ∧ qv u k 1 = nI j ∧ u 46 = nI al.1 ∧
    (a = true ↔ ¬ (9 : Int32) < pv u i 0 + qv u k 2) ∧ (b = true ↔ SB u i j (qv u k 2)) ∧ (c = true ↔ ¬ u 4 - qv u k 3 < u 0 * qv u k 2) ∧ (d = true ↔ OB u i j 0) ∧ (e = true ↔ PC u nq i j 0) ∧ f_X2_waysOf t (nI k) = some (wz a b c d e (nI al.1)) := by
  have hq := hN.2.1
  have hk12 : k < 12 := by omega
  obtain ⟨⟨i, j, hi, hj, hij, e0, e1⟩, _⟩ := hN.2.2.2.2.2 k hk
  obtain ⟨a, b, c, d, e, g1, g2, g3, g4, g5, g6⟩ := ways2_e hR hS hN hi hj (qv u k 2) (u 4 - qv u k 3)
  obtain ⟨al, ea⟩ := decide_u46 hS
  refine ⟨i, j, al, a, b, c, d, e, hi, hj, hij, e0, e1, ea, g1, g2, g3, g4, g5, ?_⟩
  unfold f_X2_waysOf
  rw [ob (isOpen_e hR hk12), if_pos h0, if_neg (by decide), ob (rq0 hR hk12), ob (rq1 hR hk12), ob (rq2 hR hk12), ob (hoursSince_e hR hk12), e0, e1, ob g6, ea]
theorem not_open2 (hR : RT B t u) {k : Nat} (hk : k < 12) (h0 : ¬ qv u k 4 = 0) : f_X2_waysOf t (nI k) = some 0 := by
  unfold f_X2_waysOf
  rw [ob (isOpen_e hR hk), if_neg h0, if_pos rfl]
theorem wz_32 (a b c d e : Bool) (al : Fin 32) : ∃ W : Fin 32, wz a b c d e (nI al.1) = nI W.1 := by
  rw [wz_fin]
  exact ⟨⟨_, Nat.lt_of_le_of_lt Nat.and_le_right al.2⟩, rfl⟩
abbrev vy (u : Nat → Int32) (W : Int32) (k : Nat) : Int32 := if qv u k 4 = 0 then (if W = 0 then (if u 1 ≤ u 4 - qv u k 3 then 0 else 3) else 2) else 1
theorem vy_e (hR : RT B t u) {k : Nat} (hk : k < 12) (W : Int32) : f_X2_whyNotDue t (nI k) W = some (vy u W k) := by
  unfold f_X2_whyNotDue
  rw [ob (isOpen_e hR hk)]
  by_cases c : qv u k 4 = 0
  · rw [show vy u W k = (if W = 0 then (if u 1 ≤ u 4 - qv u k 3 then 0 else 3) else 2) from if_pos c, if_pos c, if_neg (by decide)]
    by_cases c2 : W = 0
    · rw [if_pos c2, if_pos c2, ob (hoursSince_e hR hk), ob (rs1 hR)]; split <;> rfl
    · rw [if_neg c2, if_neg c2]
  · rw [show vy u W k = 1 from if_neg c, if_neg c, if_pos rfl]
theorem why_e (hR : RT B t u) (hN : UN u np nq) {k : Nat} (hk : k < nq) {W : Int32} (hW : f_X2_waysOf t (nI k) = some W) (hh : HH) (pp : PP) : f_X3_why t hh pp (nI k) = some (vy u W k) := by
  unfold f_X3_why
  rw [ob (hasQ1 hR hN hk), if_neg n10, ob hW, ob (vy_e hR (by have := hN.2.1; omega) W)]
theorem first_e (hR : RT B t u) (hN : UN u np nq) {k : Nat} (hk : k < nq) {W : Int32} (hW : f_X2_waysOf t (nI k) = some W) {F : Int32} (hF : f_X2_firstOf W = some F) (hh : HH) (pp : PP) : f_X3_firstWay t hh pp (nI k) = some F := by
  unfold f_X3_firstWay
  rw [ob (hasQ1 hR hN hk), if_neg n10, ob hW, ob hF]
theorem fought_e (hR : RT B t u) (hN : UN u np nq) {k i j : Nat} (hk : k < nq) (hi : i < np) (hj : j < np) (e0 : qv u k 0 = nI i) (e1 : qv u k 1 = nI j) (hh : HH) (pp : PP) : f_X3_ifFought t hh pp (nI k) = some (if (2 * pv u i 1 + pv u i 0) ≤ (2 * pv u j 1 + pv u j 0) then nI j else nI i) := by
  have hk12 : k < 12 := by have := hN.2.1; omega
  have hp := hN.1
  unfold f_X3_ifFought f_X2_winnerOf
  rw [ob (hasQ1 hR hN hk), if_neg n10, ob (rq0 hR hk12), ob (rq1 hR hk12), e0, e1, ob (skillOf_e hR (by omega)), ob (skillOf_e hR (by omega))]
  split <;> rfl
/-- one quarrel is so -/
theorem aq_step (hB : B < 1000000) (hR : RT B t u) (hS : US u) (hN : UN u np nq) (hX : XI u np nq) (hh : HH) (pp : PP) {k : Nat} (hk : k < nq) {W : Int32} (hW : f_X2_waysOf t (nI k) = some W) (n : Nat) (y1 y2 y3 y4 : Int32) :
    f_L_areQuarrelsSo_L15 t hh pp (n + 1) y1 y2 y3 y4 1 (nI k) = f_L_areQuarrelsSo_L15 t hh pp n (y1 ||| (if decide (qv u k 4 = 0) then bt k else 0)) (y2 ||| (if decide (vy u W k = 0) then bt k else 0)) (y3 + (if decide (qv u k 4 = 1) then 1 else 0)) (y4 + (if decide (qv u k 4 = 2) then 1 else 0)) 1 (nI (k + 1)) := by
  have hq := hN.2.1
  have hk12 : k < 12 := by omega
  obtain ⟨⟨i, j, hi, hj, hij, e0, e1⟩, hr, _⟩ := hN.2.2.2.2.2 k hk
  have skill : (if ((2 : Int32) * pv u i 1 + pv u i 0) ≤ ((2 : Int32) * pv u j 1 + pv u j 0) then some (nI j) else some (nI i)) = some (if (2 * pv u i 1 + pv u i 0) ≤ (2 * pv u j 1 + pv u j 0) then nI j else nI i) := by split <;> rfl
  have tail : ∀ z1 z2 z3 z4 : Int32, ((f_X3_ifFought t hh pp (nI k)).bind fun x33 => ((f_X3_of t hh pp (nI i) (1 : Int32)).bind fun x35 => ((f_X3_of t hh pp (nI i) (0 : Int32)).bind fun x37 => ((f_X3_of t hh pp (nI j) (1 : Int32)).bind fun x39 => ((f_X3_of t hh pp (nI j) (0 : Int32)).bind fun x41 => (((if (((2 : Int32) * x35) + x37) ≤ (((2 : Int32) * x39) + x41) then some (nI j) else some (nI i)) : Option (Int32)).bind fun v43 => (if x33 = v43 then f_L_areQuarrelsSo_L15 t hh pp n z1 z2 z3 z4 (1 : Int32) (nI k + (1 : Int32)) else f_L_areQuarrelsSo_L15 t hh pp n z1 z2 z3 z4 (0 : Int32) (nI k + (1 : Int32))))))))) = f_L_areQuarrelsSo_L15 t hh pp n z1 z2 z3 z4 1 (nI (k + 1)) := by
    intro z1 z2 z3 z4
    rw [ob (fought_e hR hN hk hi hj e0 e1 hh pp), ob (of_1 hR hN hi hh pp), ob (of_0 hR hN hi hh pp), ob (of_1 hR hN hj hh pp), ob (of_0 hR hN hj hh pp), ob skill, if_pos rfl, nI_1]
  rcases hX.2.1 k hk with ⟨s4, s5, s6⟩ | ⟨s4, s5, s6⟩ | ⟨s4, s5, s6⟩
  · obtain ⟨i', j', al, a, b, c, d, e, hi', hj', _, e0', e1', ea, g1, g2, g3, g4, g5, g6⟩ := open_ways hR hS hN hk s4
    obtain rfl : i' = i := nI_inj (by have := hN.1; omega) (by have := hN.1; omega) (e0'.symm.trans e0)
    obtain rfl : j' = j := nI_inj (by have := hN.1; omega) (by have := hN.1; omega) (e1'.symm.trans e1)
    obtain ⟨e', f1, f2⟩ := lways_e hB hR hS hN hX hh pp hi hj (qv u k 2) (u 4 - qv u k 3) (nI k) hr g1 g2 g3 g4
    obtain rfl : W = wz a b c d e (nI al.1) := Option.some.inj (hW.symm.trans g6)
    have hok := tw_ok al a b c d e e' (fun h => g5.2 (f1 h))
    obtain ⟨W, eW⟩ := wz_32 a b c d e al
    have h32 := first32 W
    rw [← eW] at h32
    obtain ⟨F, hF, hF2⟩ := bE h32
    have v24 : (if wz a b c d e (nI al.1) = 0 then ((f_X3_quarrel t hh pp (nI k) (3 : Int32)).bind fun x73 => ((f_X3_count t hh pp (10 : Int32)).bind fun x75 => (if x75 ≤ x73 then some (0 : Int32) else some (3 : Int32)))) else some (2 : Int32)) = some (vy u (wz a b c d e (nI al.1)) k) := by
      rw [show vy u (wz a b c d e (nI al.1)) k = (if wz a b c d e (nI al.1) = 0 then (if u 1 ≤ u 4 - qv u k 3 then 0 else 3) else 2) from if_pos s4]
      by_cases c2 : wz a b c d e (nI al.1) = 0
      · rw [if_pos c2, if_pos c2, ob (qr_3 hR hN hk hh pp), ob (ct_10 hR hh pp)]; split <;> rfl
      · rw [if_neg c2, if_neg c2]
    have v23 : (if (1 : Int32) = 0 then some (0 : Int32) else (if (0 : Int32) = 0 then ((f_X3_count t hh pp (7 : Int32)).bind fun x81 => (if (wz a b c d e (nI al.1) &&& (15 : Int32)) = (((tw a b c d + (if e' then 16 else 0)) &&& x81) &&& (15 : Int32)) then ((f_X3_count t hh pp (7 : Int32)).bind fun x84 => (if (wz a b c d e (nI al.1) &&& (16 : Int32)) < (((tw a b c d + (if e' then 16 else 0)) &&& x84) &&& (16 : Int32)) then some (0 : Int32) else ((f_X3_count t hh pp (7 : Int32)).bind fun x87 => (if ((wz a b c d e (nI al.1) &&& (16 : Int32)) &&& ((31 : Int32) - x87)) = 0 then some (1 : Int32) else some (0 : Int32))))) else some (0 : Int32))) else (if wz a b c d e (nI al.1) = 0 then some (1 : Int32) else some (0 : Int32)))) = some 1 := by
      rw [if_neg n10, if_pos rfl, ob (ct_7 hR hh pp), ob (ct_7 hR hh pp), ob (ct_7 hR hh pp), ea]
      exact hok
    rw [f_L_areQuarrelsSo_L15, ob (ct_2 hR hN hh pp), if_neg (nI_ge hk (by omega)), ob (qr_4 hR hN hk hh pp), ob (qr_7 hR hN hk g6 hh pp), ob (qr_0 hR hN hk hh pp), ob (qr_1 hR hN hk hh pp), ob (qr_2 hR hN hk hh pp), ob (qr_3 hR hN hk hh pp), e0, e1, ob f2, ob (first_e hR hN hk g6 hF hh pp), s4]
    rw [if_pos rfl, ob rfl, if_neg (by decide), ob rfl, if_neg (by decide), ob rfl, ob v23, if_pos rfl, ob v24]
    have v25 : (if vy u (wz a b c d e (nI al.1)) k = 0 then some ((1 : Int32) <<< (nI k &&& 31)) else some (0 : Int32)) = some (if decide (vy u (wz a b c d e (nI al.1)) k = 0) then bt k else 0) := by
      by_cases c2 : vy u (wz a b c d e (nI al.1)) k = 0
      · rw [if_pos c2, if_pos (decide_eq_true c2)]
      · rw [if_neg c2, if_neg (fun x => c2 (of_decide_eq_true x))]
    rw [ob v25, if_neg n10, ob (why_e hR hN hk g6 hh pp), if_pos rfl, ob rfl, ob (qr_5 hR hN hk hh pp), s5, if_pos (by decide), ob rfl, if_pos rfl, ob rfl, ob (qr_6 hR hN hk hh pp), s6, if_pos (by decide), ob rfl, if_pos rfl, ob rfl, if_neg n10, ob hF2, ob (qr_0 hR hN hk hh pp), ob (qr_1 hR hN hk hh pp), if_neg n10, e0, e1]
    rw [tail]
    rfl
  all_goals
    obtain ⟨a, b, c, d, e, g1, g2, g3, g4, g5, _⟩ := ways2_e hR hS hN hi hj (qv u k 2) (u 4 - qv u k 3)
    obtain ⟨e', f1, f2⟩ := lways_e hB hR hS hN hX hh pp hi hj (qv u k 2) (u 4 - qv u k 3) (nI k) hr g1 g2 g3 g4
    have g6 : f_X2_waysOf t (nI k) = some 0 := not_open2 hR hk12 (by rw [s4]; decide)
    obtain rfl : W = 0 := Option.some.inj (hW.symm.trans g6)
    have hF : f_X2_firstOf 0 = some (-6) := by decide +kernel
    have hvy : vy u 0 k = 1 := if_neg (by rw [s4]; decide)
    rw [f_L_areQuarrelsSo_L15, ob (ct_2 hR hN hh pp), if_neg (nI_ge hk (by omega)), ob (qr_4 hR hN hk hh pp), ob (qr_7 hR hN hk g6 hh pp), ob (qr_0 hR hN hk hh pp), ob (qr_1 hR hN hk hh pp), ob (qr_2 hR hN hk hh pp), ob (qr_3 hR hN hk hh pp), e0, e1, ob f2, ob (first_e hR hN hk g6 hF hh pp), hvy, s4]
  · rw [if_neg n10, ob rfl, if_pos rfl, ob rfl, if_neg (by decide), ob rfl, if_neg n10, if_neg n10, if_pos rfl, ob rfl, if_neg n10, ob rfl, if_neg n10, ob rfl, if_neg n10, ob (why_e hR hN hk g6 hh pp), hvy, if_pos rfl, ob rfl, ob (qr_5 hR hN hk hh pp), if_neg (by rw [ti_lt, ti_0]; omega), ob rfl, if_pos rfl, ob rfl, ob (qr_6 hR hN hk hh pp), s6, if_pos (by decide), ob rfl, if_pos rfl, ob rfl, if_neg n10, if_pos rfl, if_pos rfl, ob rfl, ob (qr_0 hR hN hk hh pp), ob (qr_1 hR hN hk hh pp), if_neg n10, e0, e1, tail]
    rfl
  · have h6 : ¬ qv u k 6 < 0 := by
      rcases s6 with h | h
      · rw [h, e0]; exact nI_pos (by have := hN.1; omega)
      · rw [h, e1]; exact nI_pos (by have := hN.1; omega)
    rw [if_neg n20, ob rfl, if_neg n21, ob rfl, if_pos rfl, ob rfl, if_neg n10, if_neg n20, if_pos rfl, ob rfl, if_neg n20, ob rfl, if_neg n10, ob rfl, if_neg n10, ob (why_e hR hN hk g6 hh pp), hvy, if_pos rfl, ob rfl, ob (qr_5 hR hN hk hh pp), s5, if_pos (by decide), ob rfl, if_pos rfl, ob rfl, ob (qr_6 hR hN hk hh pp), if_neg h6, ob rfl, if_pos rfl, ob rfl, if_neg n10, if_pos rfl, if_pos rfl, ob rfl, ob (qr_0 hR hN hk hh pp), ob (qr_1 hR hN hk hh pp), if_neg n10, e0, e1, tail]
    rfl
theorem waysOf2_e (hR : RT B t u) (hS : US u) (hN : UN u np nq) {k : Nat} (hk : k < nq) : ∃ W : Fin 32, f_X2_waysOf t (nI k) = some (nI W.1) := by
  by_cases h0 : qv u k 4 = 0
  · obtain ⟨i, j, al, a, b, c, d, e, _, _, _, _, _, _, _, _, _, _, _, g6⟩ := open_ways hR hS hN hk h0
    obtain ⟨W, eW⟩ := wz_32 a b c d e al
    exact ⟨W, by rw [g6, eW]⟩
  · exact ⟨0, not_open2 hR (by have := hN.2.1; omega) h0⟩
theorem ways_fun (hR : RT B t u) (hS : US u) (hN : UN u np nq) : ∃ Wf : Nat → Int32, ∀ k, k < nq → f_X2_waysOf t (nI k) = some (Wf k) := by
  have hch : ∀ k, ∃ v : Int32, k < nq → f_X2_waysOf t (nI k) = some v := by
    intro k
    by_cases hk : k < nq
    · obtain ⟨W, hW⟩ := waysOf2_e hR hS hN hk
      exact ⟨_, fun _ => hW⟩
    · exact ⟨0, fun c => absurd c hk⟩
  exact Classical.axiomOfChoice hch
theorem due2_e (hR : RT B t u) (hN : UN u np nq) {Wf : Nat → Int32} (hW : ∀ k, k < nq → f_X2_waysOf t (nI k) = some (Wf k)) : f_X2_dueQuarrels t = some (fd (fun k => decide (vy u (Wf k) k = 0)) gS 0 nq 0) := by
  unfold f_X2_dueQuarrels
  have hq := hN.2.1
  rw [ob (fd_loop0 (F := f_X2_dueQuarrels_L4 t) (w := fun k => decide (vy u (Wf k) k = 0)) (g := gS) hq ?_ ?_ 0)]
  · intro n acc k h1 h2
    rw [f_X2_dueQuarrels_L4, if_pos ((nq_le hR hN (by omega)).2 h1)]
  · intro n acc k h1
    rw [f_X2_dueQuarrels_L4, if_neg (fun c => absurd ((nq_le hR hN (by omega)).1 c) (by omega)), ob (hW k h1), ob (vy_e hR (by omega) (Wf k)), nI_1]
    by_cases c : vy u (Wf k) k = 0
    · rw [if_pos c, if_pos (decide_eq_true c)]
    · rw [if_neg c, if_neg (fun x => c (of_decide_eq_true x))]
theorem aq_loop (hB : B < 1000000) (hR : RT B t u) (hS : US u) (hN : UN u np nq) (hX : XI u np nq) (hh : HH) (pp : PP) {Wf : Nat → Int32} (hW : ∀ k, k < nq → f_X2_waysOf t (nI k) = some (Wf k)) : ∀ (d k n : Nat) (y1 y2 y3 y4 : Int32), k + d = nq → d < n →
    f_L_areQuarrelsSo_L15 t hh pp n y1 y2 y3 y4 1 (nI k) = some (fd (fun k => decide (qv u k 4 = 0)) gS k d y1, fd (fun k => decide (vy u (Wf k) k = 0)) gS k d y2, fd (fun k => decide (qv u k 4 = 1)) gC k d y3, fd (fun k => decide (qv u k 4 = 2)) gC k d y4, 1) := by
  intro d
  induction d with
  | zero =>
    intro k n y1 y2 y3 y4 hk hn
    obtain ⟨n, rfl⟩ : ∃ n', n = n' + 1 := ⟨n - 1, by omega⟩
    rw [f_L_areQuarrelsSo_L15, ob (ct_2 hR hN hh pp), if_pos (nI_le (by omega) (by have := hN.2.1; omega))]
    rfl
  | succ d ih =>
    intro k n y1 y2 y3 y4 hk hn
    obtain ⟨n, rfl⟩ : ∃ n', n = n' + 1 := ⟨n - 1, by omega⟩
    rw [aq_step hB hR hS hN hX hh pp (show k < nq by omega) (hW k (by omega)), ih (k + 1) n _ _ _ _ (by omega) (by omega), or_if, or_if, add_if _ _ k, add_if _ _ k, fd, fd, fd, fd]
theorem quarrels_so (hB : B < 1000000) (hR : RT B t u) (hS : US u) (hN : UN u np nq) (hX : XI u np nq) (hh : HH) (pp : PP) : f_L_areQuarrelsSo t hh pp = some 1 := by
  have hq := hN.2.1
  obtain ⟨Wf, hW⟩ := ways_fun hR hS hN
  have hl := aq_loop hB hR hS hN hX hh pp hW nq 0 2000 0 0 0 0 (by omega) (by omega)
  rw [nI_0] at hl
  have hsum : (sz16 (fd (fun k => decide (qv u k 4 = 0)) gS 0 nq 0) + fd (fun k => decide (qv u k 4 = 1)) gC 0 nq 0) + fd (fun k => decide (qv u k 4 = 2)) gC 0 nq 0 = nI nq := by
    rw [sz_fd hq, fd_cnt, fd_cnt, fd_cnt, nI_add, nI_add]
    refine congrArg nI ?_
    have h1 : cnt (fun k => decide (qv u k 4 = 0 ∨ qv u k 4 = 1)) nq = cnt (fun k => decide (qv u k 4 = 0)) nq + cnt (fun k => decide (qv u k 4 = 1)) nq :=
      cnt_or nq (fun k _ => by simp only [decide_eq_true_eq]) (fun k _ => by
        simp only [decide_eq_true_eq]
        intro ⟨x, y⟩
        rw [x] at y
        exact absurd y (by decide))
    have h2 : cnt (fun k => decide ((qv u k 4 = 0 ∨ qv u k 4 = 1) ∨ qv u k 4 = 2)) nq = cnt (fun k => decide (qv u k 4 = 0 ∨ qv u k 4 = 1)) nq + cnt (fun k => decide (qv u k 4 = 2)) nq :=
      cnt_or nq (fun k _ => by simp only [decide_eq_true_eq]) (fun k _ => by
        simp only [decide_eq_true_eq]
        rintro ⟨x | x, y⟩ <;> rw [x] at y <;> exact absurd y (by decide))
    have h3 : cnt (fun k => decide ((qv u k 4 = 0 ∨ qv u k 4 = 1) ∨ qv u k 4 = 2)) nq = nq := cnt_all nq (fun k hk => by
      simp only [decide_eq_true_eq]
      rcases hX.2.1 k hk with ⟨s, _⟩ | ⟨s, _⟩ | ⟨s, _⟩
      · exact Or.inl (Or.inl s)
      · exact Or.inl (Or.inr s)
      · exact Or.inr s)
    omega
  unfold f_L_areQuarrelsSo
  rw [ob hl, if_neg n10, ob (ct_3 hR hN hh pp), if_pos rfl, ob (ct_4 hh pp (due2_e hR hN hW)), if_pos rfl, ob (ct_5 hR hN hh pp), if_pos rfl, ob (ct_6 hR hN hh pp), if_pos rfl, ob (bits_e _), ob (ct_2 hR hN hh pp)]
  show (if (sz16 (fd (fun k => decide (qv u k 4 = 0)) gS 0 nq 0) + fd (fun k => decide (qv u k 4 = 1)) gC 0 nq 0) + fd (fun k => decide (qv u k 4 = 2)) gC 0 nq 0 = nI nq then some (1 : Int32) else some 0) = some 1
  rw [if_pos hsum]
end TB

/-! questions: both answer alike -/
section SH
variable {B : Nat} {t : TT} {u : Nat → Int32} {np nq : Nat}
theorem skillOf_e (hR : RT B t u) {k : Nat} (hk : k < 10) : f_X2_skillOf t (nI k) = some (2 * pv u k 1 + pv u k 0) := by
  unfold f_X2_skillOf
  rw [ob (rdp1 hR hk), ob (rdp0 hR hk)]
theorem skill_e {k : Nat} (hk : k < 10) : f_X4_skill u (nI k) = some (2 * pv u k 1 + pv u k 0) := by
  unfold f_X4_skill
  rw [ob (mp1 hk), ob (mp0 hk)]
theorem winner_e (hR : RT B t u) (hN : UN u np nq) {k : Nat} (hk : k < nq) : ∃ i j v w, i < np ∧ j < np ∧ i ≠ j ∧ qv u k 0 = nI i ∧ qv u k 1 = nI j ∧ (v = i ∧ w = j ∨ v = j ∧ w = i) ∧ f_X2_winnerOf t (nI k) = some (nI v) ∧ f_X4_winnerOf u (nI k) = some (nI v) := by
  have hp := hN.1
  have hq := hN.2.1
  obtain ⟨⟨i, j, hi, hj, hij, e0, e1⟩, _⟩ := hN.2.2.2.2.2 k hk
  unfold f_X2_winnerOf f_X4_winnerOf
  rw [ob (rq0 hR (by omega)), ob (rq1 hR (by omega)), ob (mq0 (by omega)), ob (mq1 (by omega)), e0, e1, ob (skillOf_e hR (by omega)), ob (skillOf_e hR (by omega)), ob (skill_e (by omega)), ob (skill_e (by omega))]
  by_cases c : 2 * pv u i 1 + pv u i 0 ≤ 2 * pv u j 1 + pv u j 0
  · exact ⟨i, j, j, i, hi, hj, hij, rfl, rfl, Or.inr ⟨rfl, rfl⟩, by rw [if_pos c], by rw [if_pos c]⟩
  · exact ⟨i, j, i, j, hi, hj, hij, rfl, rfl, Or.inl ⟨rfl, rfl⟩, by rw [if_neg c], by rw [if_neg c]⟩
theorem st_ifFought (hR : RT B t u) (hN : UN u np nq) (hh : HH) (pp : PP) (a : Int32) : ∃ r, f_X3_ifFought t hh pp a = some r ∧ f_X4_ifFought u a = some r := by
  unfold f_X3_ifFought f_X4_ifFought
  rcases hasQ hR hN a with ⟨k, hk, rfl, g1, g2⟩ | ⟨g1, g2⟩
  · obtain ⟨i, j, v, w, _, _, _, _, _, _, w1, w2⟩ := winner_e hR hN hk
    exact ⟨nI v, by rw [ob g1, if_neg n10, ob w1], by rw [ob g2, if_neg n10, ob w2]⟩
  · exact ⟨-1, by rw [ob g1, if_pos rfl], by rw [ob g2, if_pos rfl]⟩
theorem st_why (hR : RT B t u) (hS : US u) (hN : UN u np nq) (hh : HH) (pp : PP) (a : Int32) : ∃ r, f_X3_why t hh pp a = some r ∧ f_X4_why u a = some r := by
  unfold f_X3_why f_X4_why
  rcases hasQ hR hN a with ⟨k, hk, rfl, g1, g2⟩ | ⟨g1, g2⟩
  · obtain ⟨w, v, w1, w2, w3⟩ := reason_e hR hS hN hk
    exact ⟨v, by rw [ob g1, if_neg n10, ob w1, ob w2], by rw [ob g2, if_neg n10, ob w3]⟩
  · exact ⟨-1, by rw [ob g1, if_pos rfl], by rw [ob g2, if_pos rfl]⟩
theorem first_loop {u : Nat → Int32} {a : Int32} {w : Fin 32} (hw : f_X4_waysOf u a 0 = some (nI w.1)) : ∀ (d k n : Nat), k + d = 5 → d < n → ∃ r, f_X2_firstOf_L2 (nI w.1) n (nI k) = some r ∧ f_X4_firstWay_L12 u a n (nI k) = some r := by
  intro d
  induction d with
  | zero =>
    intro k n h1 h2
    obtain ⟨n, rfl⟩ : ∃ n', n = n' + 1 := ⟨n - 1, by omega⟩
    refine ⟨-6, ?_, ?_⟩
    · rw [f_X2_firstOf_L2, if_pos (by rw [show (5 : Int32) = nI 5 from rfl]; exact nI_le (by omega) (by omega))]
    · rw [f_X4_firstWay_L12, if_pos (by rw [show (5 : Int32) = nI 5 from rfl]; exact nI_le (by omega) (by omega))]
  | succ d ih =>
    intro k n h1 h2
    obtain ⟨n, rfl⟩ : ∃ n', n = n' + 1 := ⟨n - 1, by omega⟩
    obtain ⟨r, r1, r2⟩ := ih (k + 1) n (by omega) (by omega)
    have hk5 : ¬ (5 : Int32) ≤ nI k := by rw [show (5 : Int32) = nI 5 from rfl]; exact nI_ge (by omega) (by decide)
    rw [f_X2_firstOf_L2, f_X4_firstWay_L12, if_neg hk5, if_neg hk5, ob hw, nI_1, r1, r2]
    have b1 := al_bit w ⟨k, by omega⟩
    have b2 := w_bit1 w ⟨k, by omega⟩
    by_cases c : w.1.testBit k = true
    · have d1 : ¬ nI w.1 &&& ((1 : Int32) <<< (nI k &&& 31)) = 0 := (dec_not b1).2 c
      have d2 : ((nI w.1 >>> (nI k &&& 31)) &&& 1) = 1 := of_decide_eq_true (b2.trans c)
      exact ⟨nI k, by rw [if_neg d1], by rw [if_pos d2]⟩
    · have d1 : nI w.1 &&& ((1 : Int32) <<< (nI k &&& 31)) = 0 := Classical.byContradiction (fun d => c ((dec_not b1).1 d))
      have d2 : ¬ ((nI w.1 >>> (nI k &&& 31)) &&& 1) = 1 := fun d => c (b2.symm.trans (decide_eq_true d))
      exact ⟨r, by rw [if_pos d1], by rw [if_neg d2]⟩
theorem st_firstWay (hR : RT B t u) (hS : US u) (hN : UN u np nq) (hh : HH) (pp : PP) (a : Int32) : ∃ r, f_X3_firstWay t hh pp a = some r ∧ f_X4_firstWay u a = some r := by
  unfold f_X3_firstWay f_X4_firstWay f_X2_firstOf
  rcases hasQ hR hN a with ⟨k, hk, rfl, g1, g2⟩ | ⟨g1, g2⟩
  · obtain ⟨w, w1, w2⟩ := waysOf_e hR hS hN hk
    obtain ⟨r, r1, r2⟩ := first_loop w2 5 0 2000 (by omega) (by omega)
    rw [nI_0] at r1 r2
    exact ⟨r, by rw [ob g1, if_neg n10, ob w1, ob r1], by rw [ob g2, if_neg n10, r2]⟩
  · exact ⟨-1, by rw [ob g1, if_pos rfl], by rw [ob g2, if_pos rfl]⟩
theorem st_opensIn (hR : RT B t u) (hS : US u) (hN : UN u np nq) (hh : HH) (pp : PP) (a : Int32) : ∃ r, f_X3_opensIn t hh pp a = some r ∧ f_X4_opensIn u a = some r := by
  unfold f_X3_opensIn f_X4_opensIn
  rcases hasQ hR hN a with ⟨k, hk, rfl, g1, g2⟩ | ⟨g1, g2⟩
  · have hk12 : k < 12 := by have := hN.2.1; omega
    by_cases h0 : qv u k 4 = 0
    · obtain ⟨i, j, a', b, al, O1, O2, L, hi, hj, hij, e0, e1, b1, b2, b3, x1, x2, x3, x4, ea, x5, x6⟩ := ow_e hR hS hN hk h0
      have hC := cr_b hS hN hk
      have hSb := (sc_b hS hN hk).2
      obtain ⟨W, hW⟩ : ∃ W : Nat → Int32, W = fun i => wz a' b (decide (¬ u 4 - qv u k 3 + nI i < u 0 * qv u k 2)) (decide ((nI i).toInt < O1.toInt ∨ (nI i).toInt < O2.toInt)) (decide ((nI i).toInt ≤ L.toInt)) (nI al.1) := ⟨_, rfl⟩
      have hW' : ∀ i, W i = wz a' b (decide (¬ u 4 - qv u k 3 + nI i < u 0 * qv u k 2)) (decide ((nI i).toInt < O1.toInt ∨ (nI i).toInt < O2.toInt)) (decide ((nI i).toInt ≤ L.toInt)) (nI al.1) := fun i => by rw [hW]
      have hX : ∀ i, i ≤ 500 → f_X4_waysOf u (nI k) (nI i) = some (W i) := fun i hi => by
        rw [hW' i]
        exact x6 (nI i) (by rw [nI_i (by omega)]; omega) (by rw [nI_i (by omega)]; omega)
      have hL := opens_loop hX 501 0 2000 (by omega) (by omega)
      have hcore := opens_core a' b al hC hSb W hW'
      have hw0 : f_X2_waysOf t (nI k) = some (W 0) := by
        rw [x5, hW' 0, nI_0, i_add0, ti_0]
      rw [nI_0] at hL
      have hA : f_X2_hoursUntilWay t (nI k) = some (if W 0 = 0 then (if nI al.1 &&& ((1 : Int32) <<< ((2 : Int32) &&& 31)) = 0 then -6 else if u 0 * qv u k 2 - (u 4 - qv u k 3) ≤ 500 then u 0 * qv u k 2 - (u 4 - qv u k 3) else -6) else 0) := by
        unfold f_X2_hoursUntilWay f_X2_allows f_X2_hoursUntilCool f_X2_hoursToCool f_X2_orNoneIfTooFar
        rw [ob hw0]
        by_cases c : W 0 = 0
        · rw [if_pos c, if_pos c, hR.2.1, ea]
          by_cases c2 : nI al.1 &&& ((1 : Int32) <<< ((2 : Int32) &&& 31)) = 0
          · rw [if_pos c2, if_pos c2, ob rfl, if_pos rfl]
          · rw [if_neg c2, if_neg c2, ob rfl, if_neg n10, ob (rq2 hR hk12), ob (rs0 hR), ob rfl, ob (hoursSince_e hR hk12), ob rfl]
            by_cases c3 : u 0 * qv u k 2 - (u 4 - qv u k 3) ≤ 500
            · rw [if_pos c3, if_pos c3]; rfl
            · rw [if_neg c3, if_neg c3]; rfl
        · rw [if_neg c, if_neg c]
      exact ⟨_, by rw [ob g1, if_neg n10, ob (isOpen_e hR hk12), if_pos h0, if_neg n10, ob hA], by rw [ob g2, if_neg n10, ob (mq4 hk12), if_pos h0, hL, hcore]⟩
    · exact ⟨-5, by rw [ob g1, if_neg n10, ob (isOpen_e hR hk12), if_neg h0, if_pos rfl], by rw [ob g2, if_neg n10, ob (mq4 hk12), if_neg h0]⟩
  · exact ⟨-1, by rw [ob g1, if_pos rfl], by rw [ob g2, if_pos rfl]⟩
theorem hud_e (hR : RT B t u) (hN : UN u np nq) {k i j : Nat} {al : Fin 32} {O1 O2 L W0 : Int32} (hk : k < 12) (e0 : qv u k 0 = nI i) (e1 : qv u k 1 = nI j) (x1 : f_X2_oathLeft t (nI i) = some O1) (x2 : f_X2_oathLeft t (nI j) = some O2) (x3 : f_X2_peaceLeft t (nI i) (nI j) = some L) (ea : u 46 = nI al.1) (hw0 : f_X2_waysOf t (nI k) = some W0) :
    f_X2_hoursUntilDuel t (nI k) = some (if W0 &&& 3 = 0 then (if nI al.1 &&& ((1 : Int32) <<< ((2 : Int32) &&& 31)) = 0 then (if hd al.1 (u 1) (u 4 - qv u k 3) (u 0 * qv u k 2) O1 O2 L ≤ 500 then hd al.1 (u 1) (u 4 - qv u k 3) (u 0 * qv u k 2) O1 O2 L else -6) else if hd al.1 (u 1) (u 4 - qv u k 3) (u 0 * qv u k 2) O1 O2 L < u 0 * qv u k 2 - (u 4 - qv u k 3) then (if hd al.1 (u 1) (u 4 - qv u k 3) (u 0 * qv u k 2) O1 O2 L ≤ 500 then hd al.1 (u 1) (u 4 - qv u k 3) (u 0 * qv u k 2) O1 O2 L else -6) else -6) else -6) := by
  have a2 : f_X2_allows t 2 = some (if nI al.1 &&& ((1 : Int32) <<< ((2 : Int32) &&& 31)) = 0 then 0 else 1) := by
    unfold f_X2_allows; rw [hR.2.1, ea]; split <;> rfl
  have a3 : f_X2_allows t 3 = some (if nI al.1 &&& ((1 : Int32) <<< ((3 : Int32) &&& 31)) = 0 then 0 else 1) := by
    unfold f_X2_allows; rw [hR.2.1, ea]; split <;> rfl
  have a4 : f_X2_allows t 4 = some (if nI al.1 &&& ((1 : Int32) <<< ((4 : Int32) &&& 31)) = 0 then 0 else 1) := by
    unfold f_X2_allows; rw [hR.2.1, ea]; split <;> rfl
  have ac : f_X2_hoursUntilCool t (nI k) = some (u 0 * qv u k 2 - (u 4 - qv u k 3)) := by
    unfold f_X2_hoursUntilCool f_X2_hoursToCool
    rw [ob (rq2 hR hk), ob (rs0 hR), ob rfl, ob (hoursSince_e hR hk)]
  have ao : ∀ x : Int32, f_X2_orNoneIfTooFar x = some (if x ≤ 500 then x else -6) := by
    intro x; unfold f_X2_orNoneIfTooFar; split <;> rfl
  unfold f_X2_hoursUntilDuel
  rw [ob hw0]
  by_cases c : W0 &&& 3 = 0
  · rw [if_pos c, if_pos c, ob (rq0 hR hk), ob (rq1 hR hk), ob (rs1 hR), ob (hoursSince_e hR hk), ob a3, e0, e1]
    obtain ⟨h0, eh0⟩ : ∃ h0, h0 = (if (0 : Int32) < u 1 - (u 4 - qv u k 3) then u 1 - (u 4 - qv u k 3) else 0) := ⟨_, rfl⟩
    obtain ⟨h1, eh1⟩ : ∃ h1, h1 = (if nI al.1 &&& ((1 : Int32) <<< ((3 : Int32) &&& 31)) = 0 then h0 else (if h0 < (if O1 < O2 then O2 else O1) then (if O1 < O2 then O2 else O1) else h0)) := ⟨_, rfl⟩
    obtain ⟨h2, eh2⟩ : ∃ h2, h2 = (if nI al.1 &&& ((1 : Int32) <<< ((4 : Int32) &&& 31)) = 0 then h1 else (if h1 < L + 1 then L + 1 else h1)) := ⟨_, rfl⟩
    have eH : hd al.1 (u 1) (u 4 - qv u k 3) (u 0 * qv u k 2) O1 O2 L = h2 := by
      rw [eh2, eh1, eh0]; rfl
    rw [eH, ← eh0]
    have v1 : (if (if nI al.1 &&& ((1 : Int32) <<< ((3 : Int32) &&& 31)) = 0 then (0 : Int32) else 1) = 0 then some h0 else ((f_X2_oathLeft t (nI i)).bind fun x32 => ((f_X2_oathLeft t (nI j)).bind fun x34 => some (if h0 < (if x32 < x34 then x34 else x32) then (if x32 < x34 then x34 else x32) else h0)))) = some h1 := by
      rw [eh1]
      by_cases d : nI al.1 &&& ((1 : Int32) <<< ((3 : Int32) &&& 31)) = 0
      · rw [if_pos d, if_pos rfl, if_pos d]
      · rw [if_neg d, if_neg n10, ob x1, ob x2, if_neg d]
    rw [ob v1, ob a4]
    have v2 : (if (if nI al.1 &&& ((1 : Int32) <<< ((4 : Int32) &&& 31)) = 0 then (0 : Int32) else 1) = 0 then some h1 else ((f_X2_peaceLeft t (nI i) (nI j)).bind fun x29 => some (if h1 < (x29 + (1 : Int32)) then (x29 + (1 : Int32)) else h1))) = some h2 := by
      rw [eh2]
      by_cases d : nI al.1 &&& ((1 : Int32) <<< ((4 : Int32) &&& 31)) = 0
      · rw [if_pos d, if_pos rfl, if_pos d]
      · rw [if_neg d, if_neg n10, ob x3, if_neg d]
    rw [ob v2, ob a2]
    by_cases d : nI al.1 &&& ((1 : Int32) <<< ((2 : Int32) &&& 31)) = 0
    · rw [if_pos d, if_pos rfl, ob (ao h2), if_pos d]
    · rw [if_neg d, if_neg n10, ob ac, if_neg d]
      by_cases d2 : h2 < u 0 * qv u k 2 - (u 4 - qv u k 3)
      · rw [if_pos d2, ob (ao h2), if_pos d2]
      · rw [if_neg d2, if_neg d2]
  · rw [if_neg c, if_neg c]
theorem st_dueIn (hR : RT B t u) (hS : US u) (hN : UN u np nq) (hh : HH) (pp : PP) (a : Int32) : ∃ r, f_X3_dueIn t hh pp a = some r ∧ f_X4_dueIn u a = some r := by
  unfold f_X3_dueIn f_X4_dueIn
  rcases hasQ hR hN a with ⟨k, hk, rfl, g1, g2⟩ | ⟨g1, g2⟩
  · have hk12 : k < 12 := by have := hN.2.1; omega
    by_cases h0 : qv u k 4 = 0
    · obtain ⟨i, j, a', b, al, O1, O2, L, hi, hj, hij, e0, e1, b1, b2, b3, x1, x2, x3, x4, ea, x5, x6⟩ := ow_e hR hS hN hk h0
      have hC := cr_b hS hN hk
      have hSb := (sc_b hS hN hk).2
      obtain ⟨W, hW⟩ : ∃ W : Nat → Int32, W = fun i => wz a' b (decide (¬ u 4 - qv u k 3 + nI i < u 0 * qv u k 2)) (decide ((nI i).toInt < O1.toInt ∨ (nI i).toInt < O2.toInt)) (decide ((nI i).toInt ≤ L.toInt)) (nI al.1) := ⟨_, rfl⟩
      have hW' : ∀ i, W i = wz a' b (decide (¬ u 4 - qv u k 3 + nI i < u 0 * qv u k 2)) (decide ((nI i).toInt < O1.toInt ∨ (nI i).toInt < O2.toInt)) (decide ((nI i).toInt ≤ L.toInt)) (nI al.1) := fun i => by rw [hW]
      obtain ⟨R, hRR⟩ : ∃ R : Nat → Int32, R = fun i => if W i = 0 then (if u 1 ≤ u 4 - qv u k 3 + nI i then 0 else 3) else 2 := ⟨_, rfl⟩
      have hR' : ∀ i, R i = if W i = 0 then (if u 1 ≤ u 4 - qv u k 3 + nI i then 0 else 3) else 2 := fun i => by rw [hRR]
      have hX : ∀ i, i ≤ 500 → f_X4_reason u (nI k) (nI i) = some (R i) := fun i hi => by
        have hx := x6 (nI i) (by rw [nI_i (by omega)]; omega) (by rw [nI_i (by omega)]; omega)
        rw [← hW' i] at hx
        unfold f_X4_reason
        rw [ob (mq4 hk12), if_pos h0, ob hx, hR' i]
        by_cases c : W i = 0
        · rw [if_pos c, if_pos c, ob (since_e hk12), ob ms1]; split <;> rfl
        · rw [if_neg c, if_neg c]
      have hL := due_loop hX 501 0 2000 (by omega) (by omega)
      have hcore := due_core a' b al hS.2.1 hC hSb b1 b2 b3 W R (wz a' b (decide (¬ u 4 - qv u k 3 < u 0 * qv u k 2)) (decide (0 < O1.toInt ∨ 0 < O2.toInt)) (decide (0 ≤ L.toInt)) (nI al.1)) hW' hR' (wz_3p al a' b _ _ _)
      have hA := hud_e hR hN hk12 e0 e1 x1 x2 x3 ea x5
      rw [nI_0] at hL
      exact ⟨_, by rw [ob g1, if_neg n10, ob (isOpen_e hR hk12), if_pos h0, if_neg n10, ob hA], by rw [ob g2, if_neg n10, ob (mq4 hk12), if_pos h0, hL, hcore]⟩
    · exact ⟨-5, by rw [ob g1, if_neg n10, ob (isOpen_e hR hk12), if_neg h0, if_pos rfl], by rw [ob g2, if_neg n10, ob (mq4 hk12), if_neg h0]⟩
  · exact ⟨-1, by rw [ob g1, if_pos rfl], by rw [ob g2, if_pos rfl]⟩
/-- the errors of an insult -/
theorem err_e (hR : RT B t u) (hN : UN u np nq) (a a' r : Int32) :
    (∃ x, x ≠ 0 ∧ f_X2_errorOfInsult t a a' r = some x ∧ ((f_X4_isPerson u a = some 0 ∧ x = -1) ∨ (f_X4_isPerson u a = some 1 ∧ f_X4_isPerson u a' = some 0 ∧ x = -1) ∨ (f_X4_isPerson u a = some 1 ∧ f_X4_isPerson u a' = some 1 ∧ a = a' ∧ x = -2) ∨ (f_X4_isPerson u a = some 1 ∧ f_X4_isPerson u a' = some 1 ∧ ¬ a = a' ∧ f_X4_in r 1 9 = some 0 ∧ x = -2))) ∨
    (∃ i j, i < np ∧ j < np ∧ i ≠ j ∧ a = nI i ∧ a' = nI j ∧ (1 ≤ r.toInt ∧ r.toInt ≤ 9) ∧ ¬ a = a' ∧ f_X2_errorOfInsult t a a' r = some 0 ∧ f_X4_isPerson u a = some 1 ∧ f_X4_isPerson u a' = some 1 ∧ f_X4_in r 1 9 = some 1) := by
  unfold f_X2_errorOfInsult f_X2_isRank
  rcases hasP hR hN a with ⟨i, hi, ei, g1, g2⟩ | ⟨g1, g2⟩
  · rcases hasP hR hN a' with ⟨j, hj, ej, g3, g4⟩ | ⟨g3, g4⟩
    · rw [ob g1, if_neg n10, ob g3, if_neg n10]
      by_cases c : a = a'
      · exact Or.inl ⟨-2, by decide, by rw [if_pos c], Or.inr (Or.inr (Or.inl ⟨g2, g4, c, rfl⟩))⟩
      · rw [if_neg c, in_e]
        by_cases c1 : r < 1
        · exact Or.inl ⟨-2, by decide, by rw [if_pos c1]; rfl, Or.inr (Or.inr (Or.inr ⟨g2, g4, c, by rw [if_pos (Or.inl c1)], rfl⟩))⟩
        · by_cases c2 : 9 < r
          · exact Or.inl ⟨-2, by decide, by rw [if_neg c1, if_pos c2]; rfl, Or.inr (Or.inr (Or.inr ⟨g2, g4, c, by rw [if_pos (Or.inr c2)], rfl⟩))⟩
          · refine Or.inr ⟨i, j, hi, hj, fun d => c (by rw [ei, ej, d]), ei, ej, ?_, c, by rw [if_neg c1, if_neg c2]; rfl, g2, g4, by rw [if_neg (fun d => d.elim c1 c2)]⟩
            have d1 := mt ti_lt.2 c1
            have d2 := mt ti_lt.2 c2
            rw [ti_1] at d1
            rw [ti_9] at d2
            omega
    · exact Or.inl ⟨-1, by decide, by rw [ob g1, if_neg n10, ob g3, if_pos rfl], Or.inr (Or.inl ⟨g2, g4, rfl⟩)⟩
  · exact Or.inl ⟨-1, by decide, by rw [ob g1, if_pos rfl], Or.inl ⟨g2, rfl⟩⟩
theorem st_ifInsulted (hR : RT B t u) (hS : US u) (hN : UN u np nq) (hh : HH) (pp : PP) (a a' r : Int32) : ∃ z, f_X3_ifInsulted t hh pp a a' r = some z ∧ f_X4_ifInsulted u a a' r = some z := by
  unfold f_X3_ifInsulted f_X4_ifInsulted
  rcases err_e hR hN a a' r with ⟨x, hx, h1, h2⟩ | ⟨i, j, hi, hj, hij, ei, ej, hr, hne, h1, g2, g4, h5⟩
  · refine ⟨x, by rw [ob h1, if_neg hx], ?_⟩
    rcases h2 with ⟨g2, rfl⟩ | ⟨g2, g4, rfl⟩ | ⟨g2, g4, c, rfl⟩ | ⟨g2, g4, c, h5, rfl⟩
    · rw [ob g2, if_pos rfl]
    · rw [ob g2, if_neg n10, ob g4, if_pos rfl]
    · rw [ob g2, if_neg n10, ob g4, if_neg n10, if_pos c]
    · rw [ob g2, if_neg n10, ob g4, if_neg n10, if_neg c, ob h5, if_pos rfl]
  · obtain ⟨a1, b, O1, O2, L, b1, b2, b3, x1, x2, x3, x4, x5, x6⟩ := ways_e hR hS hN hi hj r 0
    have h6 := x6 (-6) 0 (fun k hk c => absurd c (nn6 k (by have := hN.2.1; omega))) (by decide) (by decide)
    rw [i_add0, ti_0] at h6
    exact ⟨_, by rw [ob h1, if_pos rfl, ei, ej, ob x5], by rw [ob g2, if_neg n10, ob g4, if_neg n10, if_neg hne, ob h5, if_neg n10, ei, ej, ob h6]⟩
theorem st_insults (hR : RT B t u) (hN : UN u np nq) (hh : HH) (pp : PP) (a : Int32) : ∃ r, f_X3_insults t hh pp a = some r ∧ f_X4_insults u a = some r := by
  unfold f_X3_insults f_X4_insults f_X2_insultsFrom f_X2_isRank
  have hq := hN.2.1
  have l1 : f_X2_insultsFrom_L14 t a 2000 0 0 = some (fd (fun k => decide (¬ qv u k 2 < a)) gC 0 nq 0) := by
    refine fd_loop0 (F := f_X2_insultsFrom_L14 t a) (w := fun k => decide (¬ qv u k 2 < a)) (g := gC) hq ?_ ?_ 0
    · intro n acc k h1 h2
      rw [f_X2_insultsFrom_L14, if_pos ((nq_le hR hN (by omega)).2 h1)]
    · intro n acc k h1
      rw [f_X2_insultsFrom_L14, if_neg (fun c => absurd ((nq_le hR hN (by omega)).1 c) (by omega)), ob (rq2 hR (by omega)), nI_1]
      by_cases c : qv u k 2 < a
      · rw [if_pos c, if_neg (by simp [c])]
      · rw [if_neg c, if_pos (by simp [c])]
  have l2 : f_X4_insults_L17 u a 2000 0 0 = some (fd (fun k => decide (¬ qv u k 2 < a)) gC 0 nq 0) := by
    refine fd_loop0 (F := f_X4_insults_L17 u a) (w := fun k => decide (¬ qv u k 2 < a)) (g := gC) hq ?_ ?_ 0
    · intro n acc k h1 h2
      rw [f_X4_insults_L17, ob ms47, if_pos ((mq_le hN (by omega)).2 h1)]
    · intro n acc k h1
      rw [f_X4_insults_L17, ob ms47, if_neg (fun c => absurd ((mq_le hN (by omega)).1 c) (by omega)), ob (mq2 (by omega)), nI_1]
      by_cases c : qv u k 2 < a
      · rw [if_pos c, ob rfl, i_add0, if_neg (by simp [c])]
      · rw [if_neg c, ob rfl, if_pos (by simp [c])]
  rw [in_e, l1, l2]
  by_cases c1 : a < 1
  · exact ⟨-2, by rw [if_pos c1]; rfl, by rw [if_pos (Or.inl c1)]; rfl⟩
  · by_cases c2 : 9 < a
    · exact ⟨-2, by rw [if_neg c1, if_pos c2]; rfl, by rw [if_pos (Or.inr c2)]; rfl⟩
    · exact ⟨_, by rw [if_neg c1, if_neg c2]; rfl, by rw [if_neg (fun d => d.elim c1 c2)]; rfl⟩
end SH

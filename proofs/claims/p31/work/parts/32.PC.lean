/-! the set of ways by five truths -/
def wz (a b c d e : Bool) (al : Int32) : Int32 := (((((if a then 1 else 0) ||| (if b then 2 else 0)) ||| (if c then 4 else 0)) ||| (if d then 8 else 0)) ||| (if e then 16 else 0)) &&& al
def o2 (b : Bool) (v w : Int32) : Int32 := if b then v ||| w else v
theorem o2_wz : ∀ a b c d e : Bool, o2 e (o2 d (o2 c (o2 b (o2 a 0 1) 2) 4) 8) 16 = (((((if a then 1 else 0) ||| (if b then 2 else 0)) ||| (if c then 4 else 0)) ||| (if d then 8 else 0)) ||| (if e then 16 else 0)) := by decide
theorem vt {c : Prop} [Decidable c] {b : Bool} {x y : Int32} (h : b = decide (¬ c)) : (if c then some x else some y) = some (if b then y else x) := by
  subst h
  by_cases hc : c
  · rw [if_pos hc, if_neg (by simp [hc])]
  · rw [if_neg hc, if_pos (by simp [hc])]
theorem v2 {c : Prop} [Decidable c] {b : Bool} {v w : Int32} (h : b = decide (¬ c)) : (if c then some v else some (v ||| w)) = some (o2 b v w) := vt h
theorem bz (b : Bool) : ((if b then (1 : Int32) else 0) = 0) ↔ b = false := by cases b <;> decide
section SC
variable {B : Nat} {t : TT} {u : Nat → Int32} {np nq : Nat}
theorem secs_e (hR : RT B t u) (hN : UN u np nq) {i j : Nat} (hi : i < np) (hj : j < np) (r : Int32) :
    ∃ b : Bool, f_X2_secondsCanSettle t (nI i) (nI j) r = some (if b then 1 else 0) ∧ f_X4_haveSeconds u (nI i) (nI j) r = some (if b then 1 else 0) ∧ (b = true → ∃ x y, x < np ∧ y < np ∧ x ≠ y ∧ pv u i 2 = nI x ∧ pv u j 2 = nI y) := by
  have hp := hN.1
  have hi0 : i < 10 := by omega
  have hj0 : j < 10 := by omega
  unfold f_X2_secondsCanSettle f_X4_haveSeconds
  rw [ob (rdp2 hR hi0), ob (rdp2 hR hj0), ob (mp2 hi0), ob (mp2 hj0)]
  by_cases c1 : pv u i 2 = -6
  · exact ⟨false, by rw [if_pos c1]; rfl, by rw [if_pos c1, ob rfl, if_pos rfl]; rfl, fun c => by cases c⟩
  by_cases c2 : pv u j 2 = -6
  · exact ⟨false, by rw [if_neg c1, if_pos c2]; rfl, by rw [if_neg c1, if_pos c2, ob rfl, if_pos rfl]; rfl, fun c => by cases c⟩
  by_cases c3 : pv u i 2 = pv u j 2
  · exact ⟨false, by rw [if_neg c1, if_neg c2, if_pos c3]; rfl, by rw [if_neg c1, if_neg c2, if_pos c3, ob rfl, if_pos rfl]; rfl, fun c => by cases c⟩
  by_cases c4 : pv u i 2 = nI j
  · exact ⟨false, by rw [if_neg c1, if_neg c2, if_neg c3, if_pos c4]; rfl, by rw [if_neg c1, if_neg c2, if_neg c3, if_pos c4, ob rfl, if_pos rfl]; rfl, fun c => by cases c⟩
  by_cases c5 : pv u j 2 = nI i
  · exact ⟨false, by rw [if_neg c1, if_neg c2, if_neg c3, if_neg c4, if_pos c5]; rfl, by rw [if_neg c1, if_neg c2, if_neg c3, if_neg c4, if_pos c5, ob rfl, if_pos rfl]; rfl, fun c => by cases c⟩
  obtain ⟨x, hx, ex⟩ : ∃ x, x < np ∧ pv u i 2 = nI x := by
    rcases (hN.2.2.2.2.1 i hi).2.2.1 with h | h
    · exact absurd h c1
    · exact h
  obtain ⟨y, hy, ey⟩ : ∃ y, y < np ∧ pv u j 2 = nI y := by
    rcases (hN.2.2.2.2.1 j hj).2.2.1 with h | h
    · exact absurd h c2
    · exact h
  have hxy : x ≠ y := fun c => c3 (by rw [ex, ey, c])
  rw [if_neg c1, if_neg c2, if_neg c3, if_neg c4, if_neg c5, if_neg c1, if_neg c2, if_neg c3, if_neg c4, if_neg c5, ob rfl, if_neg (by decide), ex, ey, ob (rdp1 hR (by omega)), ob (rdp1 hR (by omega)), ob (mp1 (by omega)), ob (mp1 (by omega))]
  exact ⟨decide (¬ pv u x 1 + pv u y 1 < 2 * r), vt rfl, vt rfl, fun _ => ⟨x, y, hx, hy, hxy, rfl, rfl⟩⟩
theorem oath_b (hS : US u) {o : Int32} (h1 : 0 ≤ o.toInt) (h2 : o.toInt ≤ 10199) : 0 ≤ (if (0 : Int32) < o - u 4 then o - u 4 else 0).toInt ∧ (if (0 : Int32) < o - u 4 then o - u 4 else 0).toInt ≤ 10199 := by
  have h4 := hS.2.2.2.2.1
  have e : (o - u 4).toInt = o.toInt - (u 4).toInt := ti_sub (by omega) (by omega)
  by_cases c : (0 : Int32) < o - u 4
  · rw [if_pos c, e]; have := ti_lt.1 c; rw [e, ti_0] at this; omega
  · rw [if_neg c, ti_0]; omega
theorem under_iff (hS : US u) {o later : Int32} (h1 : 0 ≤ o.toInt) (h2 : o.toInt ≤ 10199) (h3 : 0 ≤ later.toInt) (h5 : later.toInt ≤ 500) : (o ≤ u 4 + later) ↔ ¬ later.toInt < (if (0 : Int32) < o - u 4 then o - u 4 else 0).toInt := by
  have h4 := hS.2.2.2.2.1
  have e : (o - u 4).toInt = o.toInt - (u 4).toInt := ti_sub (by omega) (by omega)
  have e' : (u 4 + later).toInt = (u 4).toInt + later.toInt := ti_add (by omega) (by omega)
  rw [ti_le, e']
  by_cases c : (0 : Int32) < o - u 4
  · rw [if_pos c, e]; omega
  · rw [if_neg c, ti_0]
    have := mt ti_lt.2 c
    rw [e, ti_0] at this
    omega
theorem ways_e (hR : RT B t u) (hS : US u) (hN : UN u np nq) {i j : Nat} (hi : i < np) (hj : j < np) (r sc : Int32) :
    ∃ (a b : Bool) (O1 O2 L : Int32), (0 ≤ O1.toInt ∧ O1.toInt ≤ 10199) ∧ (0 ≤ O2.toInt ∧ O2.toInt ≤ 10199) ∧ (-1 ≤ L.toInt ∧ L.toInt ≤ 10400) ∧
      f_X2_oathLeft t (nI i) = some O1 ∧ f_X2_oathLeft t (nI j) = some O2 ∧ f_X2_peaceLeft t (nI i) (nI j) = some L ∧
      (b = true → ∃ x y, x < np ∧ y < np ∧ x ≠ y ∧ pv u i 2 = nI x ∧ pv u j 2 = nI y) ∧
      f_X2_waysBetween t (nI i) (nI j) r sc = some (wz a b (decide (¬ sc < u 0 * r)) (decide (0 < O1.toInt ∨ 0 < O2.toInt)) (decide (0 ≤ L.toInt)) (u 46)) ∧
      ∀ but later : Int32, (∀ k, k < nq → nI k = but → qv u k 4 ≠ 1) → 0 ≤ later.toInt → later.toInt ≤ 500 →
        f_X4_waysFor u (nI i) (nI j) r sc but later = some (wz a b (decide (¬ sc + later < u 0 * r)) (decide (later.toInt < O1.toInt ∨ later.toInt < O2.toInt)) (decide (later.toInt ≤ L.toInt)) (u 46)) := by
  have hp := hN.1
  have hi0 : i < 10 := by omega
  have hj0 : j < 10 := by omega
  obtain ⟨b, s1, s2, s3⟩ := secs_e hR hN hi hj r
  obtain ⟨L, l1, l2, l3, l4⟩ := peace_e hR hS hN (nI i) (nI j)
  have pi := (hN.2.2.2.2.1 i hi).2.2.2
  have pj := (hN.2.2.2.2.1 j hj).2.2.2
  obtain ⟨O1, ho1⟩ : ∃ O1, O1 = (if (0 : Int32) < pv u i 3 - u 4 then pv u i 3 - u 4 else 0) := ⟨_, rfl⟩
  obtain ⟨O2, ho2⟩ : ∃ O2, O2 = (if (0 : Int32) < pv u j 3 - u 4 then pv u j 3 - u 4 else 0) := ⟨_, rfl⟩
  have b1 := oath_b hS pi.1 pi.2
  have b2 := oath_b hS pj.1 pj.2
  rw [← ho1] at b1
  rw [← ho2] at b2
  have x1 := oathLeft_e hR hi0
  have x2 := oathLeft_e hR hj0
  rw [← ho1] at x1
  rw [← ho2] at x2
  refine ⟨decide (¬ (9 : Int32) < pv u i 0 + r), b, O1, O2, L, b1, b2, ⟨l1, l2⟩, x1, x2, l3, s3, ?_, ?_⟩
  · unfold f_X2_waysBetween f_X2_hoursToCool
    rw [ob (rdp0 hR hi0), ob (v2 rfl), ob s1, ob (v2 (b := b) (by simp only [bz]; cases b <;> rfl)), ob (rs0 hR), ob rfl, ob (v2 rfl), ob x1]
    have hO : ∀ v9 : Int32, (if 0 < O1 then some (v9 ||| (8 : Int32)) else ((f_X2_oathLeft t (nI j)).bind fun x18 => (if x18 ≤ 0 then some v9 else some (v9 ||| (8 : Int32))))) = some (o2 (decide (0 < O1.toInt ∨ 0 < O2.toInt)) v9 8) := by
      intro v9
      by_cases c : 0 < O1
      · have c' := ti_lt.1 c
        rw [ti_0] at c'
        rw [if_pos c]
        unfold o2
        rw [if_pos (by simp [c'])]
      · have c' := mt ti_lt.2 c
        rw [ti_0] at c'
        rw [if_neg c, ob x2]
        refine v2 ?_
        rw [decide_eq_decide, ti_le, ti_0]
        omega
    rw [ob (hO _), ob l3, ob (v2 (b := decide (0 ≤ L.toInt)) (by rw [decide_eq_decide, ti_lt, ti_0]; omega)), hR.2.1, o2_wz]
    rfl
  · intro but later hb h3 h5
    unfold f_X4_waysFor
    have y1 : f_X4_isUnderOath u (nI i) later = some (if decide (later.toInt < O1.toInt) then 1 else 0) := by
      rw [isUnderOath_e hi0, ifc (under_iff hS pi.1 pi.2 h3 h5), ← ho1]
      by_cases c : later.toInt < O1.toInt
      · rw [if_neg (not_not_intro c), if_pos (by simp [c])]
      · rw [if_pos c, if_neg (by simp [c])]
    have y2 : f_X4_isUnderOath u (nI j) later = some (if decide (later.toInt < O2.toInt) then 1 else 0) := by
      rw [isUnderOath_e hj0, ifc (under_iff hS pj.1 pj.2 h3 h5), ← ho2]
      by_cases c : later.toInt < O2.toInt
      · rw [if_neg (not_not_intro c), if_pos (by simp [c])]
      · rw [if_pos c, if_neg (by simp [c])]
    rw [ob (mp0 hi0), ob (vt rfl), ob s2, ob (vt (b := b) (by simp only [bz]; cases b <;> rfl)), ob ms0, ob (vt rfl), ob y1]
    have hO : (if (if decide (later.toInt < O1.toInt) then (1 : Int32) else 0) = 0 then ((f_X4_isUnderOath u (nI j) later).bind fun x20 => (if x20 = 0 then some (0 : Int32) else some (8 : Int32))) else some (8 : Int32)) = some (if decide (later.toInt < O1.toInt ∨ later.toInt < O2.toInt) then 8 else 0) := by
      by_cases c : later.toInt < O1.toInt
      · rw [if_neg (by simp [c]), if_pos (by simp [c])]
      · rw [if_pos (by simp [c]), ob y2]
        refine vt ?_
        simp only [bz]
        simp [c]
    rw [ob hO, ob (l4 but later hb h3 h5), ob (vt (b := decide (later.toInt ≤ L.toInt)) (by
      by_cases c : later.toInt ≤ L.toInt
      · simp [c]
      · simp [c])), ob ms46]
    rfl
theorem decide_u46 (hS : US u) : ∃ al : Fin 32, u 46 = nI al.1 := by
  have h := hS.2.2.2.2.2
  refine ⟨⟨(u 46).toInt.toNat, by omega⟩, ?_⟩
  rw [ti_eq, nI_toInt (by show (u 46).toInt.toNat < 2 ^ 31; omega)]
  show (u 46).toInt = ((u 46).toInt.toNat : Int)
  omega
end SC

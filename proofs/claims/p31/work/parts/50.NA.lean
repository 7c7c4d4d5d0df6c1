/-! what the law asks for: further words of the state, the ways told out -/
theorem nI_inj {a b : Nat} (ha : a < 2000000) (hb : b < 2000000) (h : nI a = nI b) : a = b := (nI_eq (by omega) (by omega)).1 h
/-- the seconds of both can settle; one of both is under an oath; there is peace; each so many hours later -/
def SB (u : Nat → Int32) (i j : Nat) (r : Int32) : Prop := ∃ x y, x < 10 ∧ y < 10 ∧ x ≠ y ∧ x ≠ j ∧ y ≠ i ∧ pv u i 2 = nI x ∧ pv u j 2 = nI y ∧ ¬ (pv u x 1 + pv u y 1 < 2 * r)
def OB (u : Nat → Int32) (i j : Nat) (d : Int) : Prop := (u 4).toInt + d < (pv u i 3).toInt ∨ (u 4).toInt + d < (pv u j 3).toInt
def PC (u : Nat → Int32) (nq i j : Nat) (d : Int) : Prop := ∃ k, k < nq ∧ qv u k 4 = 1 ∧ TH (nI i) (nI j) (qv u k 0) (qv u k 1) ∧ (u 4).toInt + d ≤ (qv u k 7).toInt + (u 3).toInt
abbrev ol (u : Nat → Int32) (i : Nat) : Int32 := if (0 : Int32) < pv u i 3 - u 4 then pv u i 3 - u 4 else 0
abbrev ev (u : Nat → Int32) (r w : Nat) : Int32 := u (145 + 3 * r + w)
def QE (u : Nat → Int32) (k : Nat) : Prop := (qv u k 4 = 0 ∧ qv u k 5 = -6 ∧ qv u k 6 = -6) ∨ (qv u k 4 = 1 ∧ 0 ≤ (qv u k 5).toInt ∧ qv u k 6 = -6) ∨ (qv u k 4 = 2 ∧ qv u k 5 = -6 ∧ (qv u k 6 = qv u k 0 ∨ qv u k 6 = qv u k 1))
def VE (u : Nat → Int32) (nq r : Nat) : Prop := 0 ≤ (ev u r 0).toInt ∧ (ev u r 0 = 1 → ∃ k, k < nq ∧ ev u r 2 = nI k ∧ qv u k 4 = 1 ∧ qv u k 7 = ev u r 1)
def XI (u : Nat → Int32) (np nq : Nat) : Prop := (∀ k, k < np → pv u k 2 ≠ nI k) ∧ (∀ k, k < nq → QE u k) ∧ ∃ m, m ≤ 12 ∧ u 144 = nI m ∧ ∀ r, r < m → VE u nq r
theorem ex_step {P : Nat → Prop} {k n : Nat} (hk : k < n) : (∃ k', k ≤ k' ∧ k' < n ∧ P k') ↔ (P k ∨ ∃ k', k + 1 ≤ k' ∧ k' < n ∧ P k') := by
  constructor
  · rintro ⟨k', h1, h2, h3⟩
    by_cases c : k' = k
    · subst c; exact Or.inl h3
    · exact Or.inr ⟨k', by omega, h2, h3⟩
  · rintro (h | ⟨k', h1, h2, h3⟩)
    · exact ⟨k, Nat.le_refl k, hk, h⟩
    · exact ⟨k', by omega, h2, h3⟩
section TA
variable {B : Nat} {t : TT} {u : Nat → Int32} {np nq : Nat}
theorem secs2_e (hR : RT B t u) (hN : UN u np nq) {i j : Nat} (hi : i < np) (hj : j < np) (r : Int32) : ∃ b : Bool, f_X2_secondsCanSettle t (nI i) (nI j) r = some (if b then 1 else 0) ∧ (b = true ↔ SB u i j r) := by
  have hp := hN.1
  have hi0 : i < 10 := by omega
  have hj0 : j < 10 := by omega
  unfold f_X2_secondsCanSettle
  rw [ob (rdp2 hR hi0), ob (rdp2 hR hj0)]
  have no : ¬ SB u i j r → ∃ b : Bool, (some 0 : Option Int32) = some (if b then 1 else 0) ∧ (b = true ↔ SB u i j r) := fun h => ⟨false, rfl, ⟨fun c => (Bool.noConfusion c), fun c => absurd c h⟩⟩
  by_cases c1 : pv u i 2 = -6
  · rw [if_pos c1]
    exact no (fun ⟨x, y, hx, hy, _, _, _, e1, _⟩ => nn6 x (by omega) (e1.symm.trans c1))
  by_cases c2 : pv u j 2 = -6
  · rw [if_neg c1, if_pos c2]
    exact no (fun ⟨x, y, hx, hy, _, _, _, _, e2, _⟩ => nn6 y (by omega) (e2.symm.trans c2))
  obtain ⟨x, hx, ex⟩ : ∃ x, x < np ∧ pv u i 2 = nI x := by
    rcases (hN.2.2.2.2.1 i hi).2.2.1 with h | h
    · exact absurd h c1
    · exact h
  obtain ⟨y, hy, ey⟩ : ∃ y, y < np ∧ pv u j 2 = nI y := by
    rcases (hN.2.2.2.2.1 j hj).2.2.1 with h | h
    · exact absurd h c2
    · exact h
  rw [if_neg c1, if_neg c2]
  by_cases c3 : pv u i 2 = pv u j 2
  · rw [if_pos c3]
    exact no (fun ⟨x', y', hx', hy', h1, _, _, e1, e2, _⟩ => h1 (nI_inj (by omega) (by omega) (e1.symm.trans (c3.trans e2))))
  by_cases c4 : pv u i 2 = nI j
  · rw [if_neg c3, if_pos c4]
    exact no (fun ⟨x', y', hx', hy', _, h2, _, e1, _⟩ => h2 (nI_inj (by omega) (by omega) (e1.symm.trans c4)))
  by_cases c5 : pv u j 2 = nI i
  · rw [if_neg c3, if_neg c4, if_pos c5]
    exact no (fun ⟨x', y', hx', hy', _, _, h3, _, e2, _⟩ => h3 (nI_inj (by omega) (by omega) (e2.symm.trans c5)))
  rw [if_neg c3, if_neg c4, if_neg c5, ex, ey, ob (rdp1 hR (by omega)), ob (rdp1 hR (by omega))]
  refine ⟨decide (¬ pv u x 1 + pv u y 1 < 2 * r), vt rfl, ?_⟩
  rw [decide_eq_true_eq]
  constructor
  · intro h
    exact ⟨x, y, by omega, by omega, fun c => c3 (by rw [ex, ey, c]), fun c => c4 (by rw [ex, c]), fun c => c5 (by rw [ey, c]), ex, ey, h⟩
  · rintro ⟨x', y', hx', hy', _, _, _, e1, e2, h⟩
    rw [nI_inj (a := x') (b := x) (by omega) (by omega) (e1.symm.trans ex), nI_inj (a := y') (b := y) (by omega) (by omega) (e2.symm.trans ey)] at h
    exact h
theorem peace2_loop (hR : RT B t u) (hS : US u) (hN : UN u np nq) (i j : Nat) : ∀ (d k n : Nat) (left : Int32), k + d = nq → d < n → -1 ≤ left.toInt → left.toInt ≤ 10400 →
    ∃ L : Int32, (-1 ≤ L.toInt ∧ L.toInt ≤ 10400) ∧ f_X2_peaceLeft_L5 t (nI i) (nI j) n left (nI k) = some L ∧ ∀ z : Int, z ≤ L.toInt ↔ (z ≤ left.toInt ∨ ∃ k', k ≤ k' ∧ k' < nq ∧ (qv u k' 4 = 1 ∧ TH (nI i) (nI j) (qv u k' 0) (qv u k' 1) ∧ (u 4).toInt + z ≤ (qv u k' 7).toInt + (u 3).toInt)) := by
  have hq12 := hN.2.1
  intro d
  induction d with
  | zero =>
    intro k n left hk hn h1 h2
    obtain ⟨n, rfl⟩ : ∃ n', n = n' + 1 := ⟨n - 1, by omega⟩
    refine ⟨left, ⟨h1, h2⟩, ?_, fun z => ⟨Or.inl, fun h => h.elim id (fun ⟨k', a1, a2, _⟩ => by omega)⟩⟩
    rw [f_X2_peaceLeft_L5, if_pos ((nq_le hR hN (by omega)).2 (by omega))]
  | succ d ih =>
    intro k n left hk hn h1 h2
    obtain ⟨n, rfl⟩ : ∃ n', n = n' + 1 := ⟨n - 1, by omega⟩
    have hk12 : k < 12 := by omega
    have hnk : nI k + 1 = nI (k + 1) := nI_1 k
    obtain ⟨_, _, _, h7⟩ := hN.2.2.2.2.2 k (by omega)
    rw [f_X2_peaceLeft_L5, if_neg (fun c => absurd ((nq_le hR hN (by omega)).1 c) (by omega)), ob (rq4 hR hk12)]
    have skip : ¬ (qv u k 4 = 1 ∧ TH (nI i) (nI j) (qv u k 0) (qv u k 1)) → ∃ L : Int32, (-1 ≤ L.toInt ∧ L.toInt ≤ 10400) ∧ f_X2_peaceLeft_L5 t (nI i) (nI j) n left (nI (k + 1)) = some L ∧ ∀ z : Int, z ≤ L.toInt ↔ (z ≤ left.toInt ∨ ∃ k', k ≤ k' ∧ k' < nq ∧ (qv u k' 4 = 1 ∧ TH (nI i) (nI j) (qv u k' 0) (qv u k' 1) ∧ (u 4).toInt + z ≤ (qv u k' 7).toInt + (u 3).toInt)) := by
      intro hno
      obtain ⟨L, g1, g3, g4⟩ := ih (k + 1) n left (by omega) (by omega) h1 h2
      refine ⟨L, g1, g3, fun z => ?_⟩
      rw [g4 z, ex_step (show k < nq by omega)]
      constructor
      · rintro (h | h)
        · exact Or.inl h
        · exact Or.inr (Or.inr h)
      · rintro (h | h | h)
        · exact Or.inl h
        · exact absurd ⟨h.1, h.2.1⟩ hno
        · exact Or.inr h
    by_cases hs : qv u k 4 = 1
    · rw [if_pos hs, ob (rq0 hR hk12), ob (rq1 hR hk12), ob (areThese_e _ _ _ _)]
      by_cases hth : TH (nI i) (nI j) (qv u k 0) (qv u k 1)
      · rw [if_pos hth, if_neg (by decide), ob (rq7 hR hk12), ob (rs3 hR), hnk, hR.1]
        have e1 : (qv u k 7 + u 3).toInt = (qv u k 7).toInt + (u 3).toInt := ti_add (by have := hS.2.2.2.1; omega) (by have := hS.2.2.2.1; omega)
        have e2 : (qv u k 7 + u 3 - u 4).toInt = (qv u k 7).toInt + (u 3).toInt - (u 4).toInt := by
          rw [ti_sub, e1] <;> rw [e1] <;> (have := hS.2.2.2.1; have := hS.2.2.2.2.1; omega)
        have e3 : (if left < qv u k 7 + u 3 - u 4 then qv u k 7 + u 3 - u 4 else left).toInt = if left.toInt < (qv u k 7).toInt + (u 3).toInt - (u 4).toInt then (qv u k 7).toInt + (u 3).toInt - (u 4).toInt else left.toInt := by
          by_cases hc : left < qv u k 7 + u 3 - u 4
          · have hc' := ti_lt.1 hc
            rw [e2] at hc'
            rw [if_pos hc, if_pos hc', e2]
          · have hc' := mt ti_lt.2 hc
            rw [e2] at hc'
            rw [if_neg hc, if_neg hc']
        obtain ⟨L, g1, g3, g4⟩ := ih (k + 1) n (if left < qv u k 7 + u 3 - u 4 then qv u k 7 + u 3 - u 4 else left) (by omega) (by omega) (by rw [e3]; split <;> omega) (by rw [e3]; have := hS.2.2.2.1; have := hS.2.2.2.2.1; split <;> omega)
        refine ⟨L, g1, g3, fun z => ?_⟩
        have hz : z ≤ (if left < qv u k 7 + u 3 - u 4 then qv u k 7 + u 3 - u 4 else left).toInt ↔ (z ≤ left.toInt ∨ (u 4).toInt + z ≤ (qv u k 7).toInt + (u 3).toInt) := by
          rw [e3]; split <;> omega
        rw [g4 z, ex_step (show k < nq by omega), hz]
        constructor
        · rintro ((h | h) | h)
          · exact Or.inl h
          · exact Or.inr (Or.inl ⟨hs, hth, h⟩)
          · exact Or.inr (Or.inr h)
        · rintro (h | h | h)
          · exact Or.inl (Or.inl h)
          · exact Or.inl (Or.inr h.2.2)
          · exact Or.inr h
      · rw [if_neg hth, if_pos rfl, hnk]
        exact skip (fun c => hth c.2)
    · rw [if_neg hs, hnk]
      exact skip (fun c => hs c.1)
theorem peace2_e (hR : RT B t u) (hS : US u) (hN : UN u np nq) (i j : Nat) : ∃ L : Int32, (-1 ≤ L.toInt ∧ L.toInt ≤ 10400) ∧ f_X2_peaceLeft t (nI i) (nI j) = some L ∧ ∀ z : Int, 0 ≤ z → (z ≤ L.toInt ↔ PC u nq i j z) := by
  obtain ⟨L, g1, g3, g4⟩ := peace2_loop hR hS hN i j nq 0 2000 (-1) (by omega) (by have := hN.2.1; omega) (by decide) (by decide)
  refine ⟨L, g1, ?_, fun z hz => ?_⟩
  · unfold f_X2_peaceLeft
    rw [nI_0] at g3
    rw [ob g3]
  · rw [g4 z, ti_m1]
    constructor
    · rintro (h | ⟨k, _, h2, h3⟩)
      · omega
      · exact ⟨k, h2, h3⟩
    · rintro ⟨k, h2, h3⟩
      exact Or.inr ⟨k, Nat.zero_le k, h2, h3⟩
theorem ol_iff (hS : US u) (hN : UN u np nq) {i : Nat} (hi : i < np) : (0 ≤ (ol u i).toInt ∧ (ol u i).toInt ≤ 10199) ∧ ∀ z : Int, 0 ≤ z → ((ol u i).toInt ≤ z ↔ (pv u i 3).toInt ≤ (u 4).toInt + z) := by
  have pi := (hN.2.2.2.2.1 i hi).2.2.2
  have h4 := hS.2.2.2.2.1
  have e : (pv u i 3 - u 4).toInt = (pv u i 3).toInt - (u 4).toInt := ti_sub (by omega) (by omega)
  refine ⟨oath_b hS pi.1 pi.2, fun z hz => ?_⟩
  by_cases c : (0 : Int32) < pv u i 3 - u 4
  · rw [show ol u i = pv u i 3 - u 4 from if_pos c, e]; omega
  · rw [show ol u i = 0 from if_neg c, ti_0]
    have := mt ti_lt.2 c
    rw [e, ti_0] at this
    omega
theorem OB_iff (hS : US u) (hN : UN u np nq) {i j : Nat} (hi : i < np) (hj : j < np) {z : Int} (hz : 0 ≤ z) : OB u i j z ↔ (z < (ol u i).toInt ∨ z < (ol u j).toInt) := by
  have h1 := (ol_iff hS hN hi).2 z hz
  have h2 := (ol_iff hS hN hj).2 z hz
  unfold OB
  omega
theorem ways2_e (hR : RT B t u) (hS : US u) (hN : UN u np nq) {i j : Nat} (hi : i < np) (hj : j < np) (r sc : Int32) :
    ∃ a b c d e : Bool, (a = true ↔ ¬ (9 : Int32) < pv u i 0 + r) ∧ (b = true ↔ SB u i j r) ∧ (c = true ↔ ¬ sc < u 0 * r) ∧ (d = true ↔ OB u i j 0) ∧ (e = true ↔ PC u nq i j 0) ∧ f_X2_waysBetween t (nI i) (nI j) r sc = some (wz a b c d e (u 46)) := by
  have hp := hN.1
  have hi0 : i < 10 := by omega
  have hj0 : j < 10 := by omega
  obtain ⟨b, s1, s2⟩ := secs2_e hR hN hi hj r
  obtain ⟨L, l1, l2, l3⟩ := peace2_e hR hS hN i j
  have b1 := ol_iff hS hN hi
  have b2 := ol_iff hS hN hj
  have x1 : f_X2_oathLeft t (nI i) = some (ol u i) := oathLeft_e hR hi0
  have x2 : f_X2_oathLeft t (nI j) = some (ol u j) := oathLeft_e hR hj0
  have hob := OB_iff hS hN hi hj (z := 0) (by omega)
  refine ⟨decide (¬ (9 : Int32) < pv u i 0 + r), b, decide (¬ sc < u 0 * r), decide (0 < (ol u i).toInt ∨ 0 < (ol u j).toInt), decide (0 ≤ L.toInt), decide_eq_true_iff, s2, decide_eq_true_iff, ?_, ?_, ?_⟩
  · rw [decide_eq_true_iff, hob]
  · rw [decide_eq_true_iff, l3 0 (by omega)]
  · unfold f_X2_waysBetween f_X2_hoursToCool
    rw [ob (rdp0 hR hi0), ob (v2 rfl), ob s1, ob (v2 (b := b) (by simp only [bz]; cases b <;> rfl)), ob (rs0 hR), ob rfl, ob (v2 rfl), ob x1]
    have hO : ∀ v9 : Int32, (if 0 < ol u i then some (v9 ||| (8 : Int32)) else ((f_X2_oathLeft t (nI j)).bind fun x18 => (if x18 ≤ 0 then some v9 else some (v9 ||| (8 : Int32))))) = some (o2 (decide (0 < (ol u i).toInt ∨ 0 < (ol u j).toInt)) v9 8) := by
      intro v9
      by_cases c : 0 < ol u i
      · have c' := ti_lt.1 c
        rw [ti_0] at c'
        rw [if_pos c]
        unfold o2
        rw [if_pos (decide_eq_true (Or.inl c'))]
      · have c' := mt ti_lt.2 c
        rw [ti_0] at c'
        rw [if_neg c, ob x2]
        refine v2 ?_
        rw [decide_eq_decide, ti_le, ti_0]
        omega
    rw [ob (hO _), ob l2, ob (v2 (b := decide (0 ≤ L.toInt)) (by rw [decide_eq_decide, ti_lt, ti_0]; omega)), hR.2.1, o2_wz]
    rfl
/-! answers told out -/
theorem hasP1 (hR : RT B t u) (hN : UN u np nq) {k : Nat} (hk : k < np) : f_X2_hasPerson t (nI k) = some 1 := by
  have := hN.1
  unfold f_X2_hasPerson
  rw [if_neg (nI_pos (by omega)), hR.2.2.1, hN.2.2.1, if_neg (nI_ge hk (by omega))]
theorem hasQ1 (hR : RT B t u) (hN : UN u np nq) {k : Nat} (hk : k < nq) : f_X2_hasQuarrel t (nI k) = some 1 := by
  have := hN.2.1
  unfold f_X2_hasQuarrel
  rw [if_neg (nI_pos (by omega)), hR.2.2.2.1, hN.2.2.2.1, if_neg (nI_ge hk (by omega))]
abbrev w8 (u : Nat → Int32) (k : Nat) : Nat → Bool := fun i => decide (pv u i 2 = nI k)
theorem second2_e (hR : RT B t u) (hN : UN u np nq) (v : Int32) : f_X2_personsWithSecond t v = some (fd (fun k => decide (pv u k 2 = v)) gS 0 np 0) := by
  unfold f_X2_personsWithSecond
  have hq := hN.1
  rw [ob (fd_loop0 (F := f_X2_personsWithSecond_L4 t v) (w := fun k => decide (pv u k 2 = v)) (g := gS) (nq := np) (by omega) ?_ ?_ 0)]
  · intro n acc k h1 h2
    rw [f_X2_personsWithSecond_L4, if_pos ((np_le hR hN (by omega)).2 h1)]
  · intro n acc k h1
    rw [f_X2_personsWithSecond_L4, if_neg (fun c => absurd ((np_le hR hN (by omega)).1 c) (by omega)), ob (rdp2 hR (by omega)), nI_1]
    by_cases c : pv u k 2 = v
    · rw [if_pos c, if_pos (by simp [c])]
    · rw [if_neg c, if_neg (by simp [c])]
theorem sworn2_e (hR : RT B t u) (hN : UN u np nq) : f_X2_personsUnderOath t = some (fd (fun k => decide (¬ ol u k ≤ 0)) gS 0 np 0) := by
  unfold f_X2_personsUnderOath
  have hq := hN.1
  rw [ob (fd_loop0 (F := f_X2_personsUnderOath_L4 t) (w := fun k => decide (¬ ol u k ≤ 0)) (g := gS) (nq := np) (by omega) ?_ ?_ 0)]
  · intro n acc k h1 h2
    rw [f_X2_personsUnderOath_L4, if_pos ((np_le hR hN (by omega)).2 h1)]
  · intro n acc k h1
    rw [f_X2_personsUnderOath_L4, if_neg (fun c => absurd ((np_le hR hN (by omega)).1 c) (by omega)), ob (oathLeft_e hR (by omega)), nI_1]
    by_cases c : ol u k ≤ 0
    · rw [if_pos c, if_neg (dn c)]
    · rw [if_neg c, if_pos (dp c)]
theorem of_0 (hR : RT B t u) (hN : UN u np nq) {k : Nat} (hk : k < np) (hh : HH) (pp : PP) : f_X3_of t hh pp (nI k) 0 = some (pv u k 0) := by
  unfold f_X3_of f_X2_tellPerson
  rw [ob (hasP1 hR hN hk), if_neg n10, if_pos rfl, ob (rdp0 hR (by have := hN.1; omega))]; rfl
theorem of_1 (hR : RT B t u) (hN : UN u np nq) {k : Nat} (hk : k < np) (hh : HH) (pp : PP) : f_X3_of t hh pp (nI k) 1 = some (pv u k 1) := by
  unfold f_X3_of f_X2_tellPerson
  rw [ob (hasP1 hR hN hk), if_neg n10, if_neg (by decide), if_pos rfl, ob (rdp1 hR (by have := hN.1; omega))]; rfl
theorem of_2 (hR : RT B t u) (hN : UN u np nq) {k : Nat} (hk : k < np) (hh : HH) (pp : PP) : f_X3_of t hh pp (nI k) 2 = some (pv u k 2) := by
  unfold f_X3_of f_X2_tellPerson
  rw [ob (hasP1 hR hN hk), if_neg n10, if_neg (by decide), if_neg (by decide), if_pos rfl, ob (rdp2 hR (by have := hN.1; omega))]; rfl
theorem of_3 (hR : RT B t u) (hN : UN u np nq) {k : Nat} (hk : k < np) (hh : HH) (pp : PP) : f_X3_of t hh pp (nI k) 3 = some (ol u k) := by
  unfold f_X3_of f_X2_tellPerson
  rw [ob (hasP1 hR hN hk), if_neg n10, if_neg (by decide), if_neg (by decide), if_neg (by decide), if_pos rfl, ob (oathLeft_e hR (by have := hN.1; omega))]; rfl
theorem of_4 (hR : RT B t u) (hN : UN u np nq) {k : Nat} (hk : k < np) (hh : HH) (pp : PP) : f_X3_of t hh pp (nI k) 4 = some (fd (fun i => decide (qv u i 0 = nI k)) gC 0 nq 0) := by
  unfold f_X3_of f_X2_tellPerson
  rw [ob (hasP1 hR hN hk), if_neg n10, if_neg (by decide), if_neg (by decide), if_neg (by decide), if_neg (by decide), if_pos rfl, ob (qw_e hR hN (f := 0) (fun k hk => rq0 hR hk) (nI k))]; rfl
theorem of_5 (hR : RT B t u) (hN : UN u np nq) {k : Nat} (hk : k < np) (hh : HH) (pp : PP) : f_X3_of t hh pp (nI k) 5 = some (fd (fun i => decide (qv u i 1 = nI k)) gC 0 nq 0) := by
  unfold f_X3_of f_X2_tellPerson
  rw [ob (hasP1 hR hN hk), if_neg n10, if_neg (by decide), if_neg (by decide), if_neg (by decide), if_neg (by decide), if_neg (by decide), if_pos rfl, ob (qw_e hR hN (f := 1) (fun k hk => rq1 hR hk) (nI k))]; rfl
theorem of_6 (hR : RT B t u) (hN : UN u np nq) {k : Nat} (hk : k < np) (hh : HH) (pp : PP) : f_X3_of t hh pp (nI k) 6 = some (fd (fun i => decide (qv u i 6 = nI k)) gC 0 nq 0) := by
  unfold f_X3_of f_X2_tellPerson
  rw [ob (hasP1 hR hN hk), if_neg n10, if_neg (by decide), if_neg (by decide), if_neg (by decide), if_neg (by decide), if_neg (by decide), if_neg (by decide), if_pos rfl, ob (qw_e hR hN (f := 6) (fun k hk => rq6 hR hk) (nI k))]; rfl
theorem of_7 (hR : RT B t u) (hN : UN u np nq) {k : Nat} (hk : k < np) (hh : HH) (pp : PP) : f_X3_of t hh pp (nI k) 7 = some (fd (fun i => decide ((qv u i 0 = nI k ∨ qv u i 1 = nI k) ∧ qv u i 4 = 2)) gC 0 nq 0) := by
  unfold f_X3_of f_X2_tellPerson
  rw [ob (hasP1 hR hN hk), if_neg n10, if_neg (by decide), if_neg (by decide), if_neg (by decide), if_neg (by decide), if_neg (by decide), if_neg (by decide), if_neg (by decide), if_pos rfl, ob (duelsOf_e hR hN (nI k))]; rfl
theorem of_8 (hR : RT B t u) (hN : UN u np nq) {k : Nat} (hk : k < np) (hh : HH) (pp : PP) : f_X3_of t hh pp (nI k) 8 = some (fd (fun i => decide (pv u i 2 = nI k)) gS 0 np 0) := by
  unfold f_X3_of f_X2_tellPerson
  rw [ob (hasP1 hR hN hk), if_neg n10, if_neg (by decide), if_neg (by decide), if_neg (by decide), if_neg (by decide), if_neg (by decide), if_neg (by decide), if_neg (by decide), if_neg (by decide), if_pos rfl, ob (second2_e hR hN (nI k))]; rfl
theorem qr_0 (hR : RT B t u) (hN : UN u np nq) {k : Nat} (hk : k < nq) (hh : HH) (pp : PP) : f_X3_quarrel t hh pp (nI k) 0 = some (qv u k 0) := by
  unfold f_X3_quarrel f_X2_tellQuarrel
  rw [ob (hasQ1 hR hN hk), if_neg n10, if_pos rfl, ob (rq0 hR (by have := hN.2.1; omega))]; rfl
theorem qr_1 (hR : RT B t u) (hN : UN u np nq) {k : Nat} (hk : k < nq) (hh : HH) (pp : PP) : f_X3_quarrel t hh pp (nI k) 1 = some (qv u k 1) := by
  unfold f_X3_quarrel f_X2_tellQuarrel
  rw [ob (hasQ1 hR hN hk), if_neg n10, if_neg (by decide), if_pos rfl, ob (rq1 hR (by have := hN.2.1; omega))]; rfl
theorem qr_2 (hR : RT B t u) (hN : UN u np nq) {k : Nat} (hk : k < nq) (hh : HH) (pp : PP) : f_X3_quarrel t hh pp (nI k) 2 = some (qv u k 2) := by
  unfold f_X3_quarrel f_X2_tellQuarrel
  rw [ob (hasQ1 hR hN hk), if_neg n10, if_neg (by decide), if_neg (by decide), if_pos rfl, ob (rq2 hR (by have := hN.2.1; omega))]; rfl
theorem qr_3 (hR : RT B t u) (hN : UN u np nq) {k : Nat} (hk : k < nq) (hh : HH) (pp : PP) : f_X3_quarrel t hh pp (nI k) 3 = some (u 4 - qv u k 3) := by
  unfold f_X3_quarrel f_X2_tellQuarrel
  rw [ob (hasQ1 hR hN hk), if_neg n10, if_neg (by decide), if_neg (by decide), if_neg (by decide), if_pos rfl, ob (hoursSince_e hR (by have := hN.2.1; omega))]; rfl
theorem qr_4 (hR : RT B t u) (hN : UN u np nq) {k : Nat} (hk : k < nq) (hh : HH) (pp : PP) : f_X3_quarrel t hh pp (nI k) 4 = some (qv u k 4) := by
  unfold f_X3_quarrel f_X2_tellQuarrel
  rw [ob (hasQ1 hR hN hk), if_neg n10, if_neg (by decide), if_neg (by decide), if_neg (by decide), if_neg (by decide), if_pos rfl, ob (rq4 hR (by have := hN.2.1; omega))]; rfl
theorem qr_5 (hR : RT B t u) (hN : UN u np nq) {k : Nat} (hk : k < nq) (hh : HH) (pp : PP) : f_X3_quarrel t hh pp (nI k) 5 = some (qv u k 5) := by
  unfold f_X3_quarrel f_X2_tellQuarrel
  rw [ob (hasQ1 hR hN hk), if_neg n10, if_neg (by decide), if_neg (by decide), if_neg (by decide), if_neg (by decide), if_neg (by decide), if_pos rfl, ob (rq5 hR (by have := hN.2.1; omega))]; rfl
theorem qr_6 (hR : RT B t u) (hN : UN u np nq) {k : Nat} (hk : k < nq) (hh : HH) (pp : PP) : f_X3_quarrel t hh pp (nI k) 6 = some (qv u k 6) := by
  unfold f_X3_quarrel f_X2_tellQuarrel
  rw [ob (hasQ1 hR hN hk), if_neg n10, if_neg (by decide), if_neg (by decide), if_neg (by decide), if_neg (by decide), if_neg (by decide), if_neg (by decide), if_pos rfl, ob (rq6 hR (by have := hN.2.1; omega))]; rfl
theorem qr_7 (hR : RT B t u) (hN : UN u np nq) {k : Nat} (hk : k < nq) {W : Int32} (hW : f_X2_waysOf t (nI k) = some W) (hh : HH) (pp : PP) : f_X3_quarrel t hh pp (nI k) 7 = some W := by
  unfold f_X3_quarrel f_X2_tellQuarrel
  rw [ob (hasQ1 hR hN hk), if_neg n10, if_neg (by decide), if_neg (by decide), if_neg (by decide), if_neg (by decide), if_neg (by decide), if_neg (by decide), if_neg (by decide), if_pos rfl, ob hW]; rfl
theorem ct_0 (hR : RT B t u) (hh : HH) (pp : PP) : f_X3_count t hh pp 0 = some (u 4) := by
  unfold f_X3_count f_X2_tellNumber
  rw [if_neg (by decide), if_neg (by decide), if_pos rfl, hR.1]; rfl
theorem ct_1 (hR : RT B t u) (hN : UN u np nq) (hh : HH) (pp : PP) : f_X3_count t hh pp 1 = some (nI np) := by
  unfold f_X3_count f_X2_tellNumber
  rw [if_neg (by decide), if_neg (by decide), if_neg (by decide), if_pos rfl, hR.2.2.1, hN.2.2.1]; rfl
theorem ct_2 (hR : RT B t u) (hN : UN u np nq) (hh : HH) (pp : PP) : f_X3_count t hh pp 2 = some (nI nq) := by
  unfold f_X3_count f_X2_tellNumber
  rw [if_neg (by decide), if_neg (by decide), if_neg (by decide), if_neg (by decide), if_pos rfl, hR.2.2.2.1, hN.2.2.2.1]; rfl
theorem ct_3 (hR : RT B t u) (hN : UN u np nq) (hh : HH) (pp : PP) : f_X3_count t hh pp 3 = some (fd (fun k => decide (qv u k 4 = 0)) gS 0 nq 0) := by
  unfold f_X3_count f_X2_tellNumber
  rw [if_neg (by decide), if_neg (by decide), if_neg (by decide), if_neg (by decide), if_neg (by decide), if_pos rfl, ob (open_e hR hN)]; rfl
theorem ct_4 (hh : HH) (pp : PP) {d : Int32} (hd : f_X2_dueQuarrels t = some d) : f_X3_count t hh pp 4 = some d := by
  unfold f_X3_count f_X2_tellNumber
  rw [if_neg (by decide), if_neg (by decide), if_neg (by decide), if_neg (by decide), if_neg (by decide), if_neg (by decide), if_pos rfl, ob hd]; rfl
theorem ct_5 (hR : RT B t u) (hN : UN u np nq) (hh : HH) (pp : PP) : f_X3_count t hh pp 5 = some (fd (fun k => decide (qv u k 4 = 1)) gC 0 nq 0) := by
  unfold f_X3_count f_X2_tellNumber
  rw [if_neg (by decide), if_neg (by decide), if_neg (by decide), if_neg (by decide), if_neg (by decide), if_neg (by decide), if_neg (by decide), if_pos rfl, ob (qw_e hR hN (f := 4) (fun k hk => rq4 hR hk) 1)]; rfl
theorem ct_6 (hR : RT B t u) (hN : UN u np nq) (hh : HH) (pp : PP) : f_X3_count t hh pp 6 = some (fd (fun k => decide (qv u k 4 = 2)) gC 0 nq 0) := by
  unfold f_X3_count f_X2_tellNumber
  rw [if_neg (by decide), if_neg (by decide), if_neg (by decide), if_neg (by decide), if_neg (by decide), if_neg (by decide), if_neg (by decide), if_neg (by decide), if_pos rfl, ob (qw_e hR hN (f := 4) (fun k hk => rq4 hR hk) 2)]; rfl
theorem ct_7 (hR : RT B t u) (hh : HH) (pp : PP) : f_X3_count t hh pp 7 = some (u 46) := by
  unfold f_X3_count f_X2_tellNumber
  rw [if_neg (by decide), if_neg (by decide), if_neg (by decide), if_neg (by decide), if_neg (by decide), if_neg (by decide), if_neg (by decide), if_neg (by decide), if_neg (by decide), if_pos rfl, hR.2.1]; rfl
theorem ct_8 (hR : RT B t u) (hN : UN u np nq) (hh : HH) (pp : PP) : f_X3_count t hh pp 8 = some (fd (fun k => decide (¬ ol u k ≤ 0)) gS 0 np 0) := by
  unfold f_X3_count f_X2_tellNumber
  rw [if_neg (by decide), if_neg (by decide), if_neg (by decide), if_neg (by decide), if_neg (by decide), if_neg (by decide), if_neg (by decide), if_neg (by decide), if_neg (by decide), if_neg (by decide), if_pos rfl, ob (sworn2_e hR hN)]; rfl
theorem ct_9 (hR : RT B t u) (hh : HH) (pp : PP) : f_X3_count t hh pp 9 = some (u 0) := by
  unfold f_X3_count f_X2_tellNumber
  rw [if_neg (by decide), if_neg (by decide), if_neg (by decide), if_neg (by decide), if_neg (by decide), if_neg (by decide), if_neg (by decide), if_neg (by decide), if_neg (by decide), if_neg (by decide), if_neg (by decide), if_pos rfl, ob (rs0 hR)]; rfl
theorem ct_10 (hR : RT B t u) (hh : HH) (pp : PP) : f_X3_count t hh pp 10 = some (u 1) := by
  unfold f_X3_count f_X2_tellNumber
  rw [if_neg (by decide), if_neg (by decide), if_neg (by decide), if_neg (by decide), if_neg (by decide), if_neg (by decide), if_neg (by decide), if_neg (by decide), if_neg (by decide), if_neg (by decide), if_neg (by decide), if_neg (by decide), if_pos rfl, ob (rs1 hR)]; rfl
theorem ct_12 (hR : RT B t u) (hh : HH) (pp : PP) : f_X3_count t hh pp 12 = some (u 3) := by
  unfold f_X3_count f_X2_tellNumber
  rw [if_neg (by decide), if_neg (by decide), if_neg (by decide), if_neg (by decide), if_neg (by decide), if_neg (by decide), if_neg (by decide), if_neg (by decide), if_neg (by decide), if_neg (by decide), if_neg (by decide), if_neg (by decide), if_neg (by decide), if_neg (by decide), if_pos rfl, ob (rs3 hR)]; rfl
theorem rec_in (hB : B < 1000000) (hR : RT B t u) {m r : Nat} (hm : m ≤ 12) (h1 : u 144 = nI m) (hr : r < m) (hh : HH) (pp : PP) : f_X3_record t hh pp (nI r) 0 = some (ev u r 0) ∧ f_X3_record t hh pp (nI r) 1 = some (ev u r 1) ∧ f_X3_record t hh pp (nI r) 2 = some (ev u r 2) := by
  obtain ⟨ne, e1, e2, e3, e4⟩ := hR.2.2.2.2.2
  obtain rfl : m = min ne 12 := nI_inj (by omega) (by omega) (h1.symm.trans e3)
  have hm : (if (12 : Int32) < nI ne then (12 : Int32) else nI ne) = nI (min ne 12) := by
    rw [show (12 : Int32) = nI 12 from rfl]
    by_cases c : 12 < ne
    · rw [if_pos (nI_lt c (by omega)), show min ne 12 = 12 from by omega]
    · rw [if_neg (nI_nlt (by omega) (by decide)), show min ne 12 = ne from by omega]
  have ep : nI ne - 1 - nI r = nI (ne - 1 - r) := by
    rw [show (1 : Int32) = nI 1 from rfl, pk_sub (by omega), pk_sub (by omega)]
  have i1 : ∀ w : Nat, w < 3 → f_X2_read t (nI (140 + 12 * w)) (nI ((ne - 1 - r) % 12)) = some (u (145 + 3 * r + w)) := by
    intro w hw
    have : (ne - 1 - r) % 12 < 12 := Nat.mod_lt _ (by decide)
    rw [x2_rd (r := 140 + 12 * w) rfl (by omega), e4 r w hr hw]
  have k0 : f_X2_read t 140 (nI ((ne - 1 - r) % 12)) = some (ev u r 0) := i1 0 (by decide)
  have k1 : f_X2_read t 152 (nI ((ne - 1 - r) % 12)) = some (ev u r 1) := i1 1 (by decide)
  have k2 : f_X2_read t 164 (nI ((ne - 1 - r) % 12)) = some (ev u r 2) := i1 2 (by decide)
  have key : ∀ w : Int32, f_X3_record t hh pp (nI r) w = ((if w = (0 : Int32) then ((f_X2_read t (140 : Int32) (nI ((ne - 1 - r) % 12))).bind fun x7 => some x7) else (if w = (1 : Int32) then ((f_X2_read t (152 : Int32) (nI ((ne - 1 - r) % 12))).bind fun x10 => some x10) else (if w = (2 : Int32) then ((f_X2_read t (164 : Int32) (nI ((ne - 1 - r) % 12))).bind fun x13 => some x13) else some (-2 : Int32)))).bind fun x1 => some x1) := by
    intro w
    unfold f_X3_record f_X2_tellEvent
    rw [e2, hm, if_neg (nI_pos (by omega)), if_pos (nI_lt hr (by omega)), ep, ob (fm12 (by omega))]
  refine ⟨?_, ?_, ?_⟩
  · rw [key, if_pos rfl, ob k0]; rfl
  · rw [key, if_neg n10, if_pos rfl, ob k1]; rfl
  · rw [key, if_neg n20, if_neg n21, if_pos rfl, ob k2]; rfl
theorem rec_out (hB : B < 1000000) (hR : RT B t u) {m r : Nat} (hm : m ≤ 12) (h1 : u 144 = nI m) (hr : m ≤ r) (hr2 : r ≤ 12) (hh : HH) (pp : PP) (w : Int32) : f_X3_record t hh pp (nI r) w = some (-1) := by
  obtain ⟨ne, e1, e2, e3, e4⟩ := hR.2.2.2.2.2
  obtain rfl : m = min ne 12 := nI_inj (by omega) (by omega) (h1.symm.trans e3)
  have hm : (if (12 : Int32) < nI ne then (12 : Int32) else nI ne) = nI (min ne 12) := by
    rw [show (12 : Int32) = nI 12 from rfl]
    by_cases c : 12 < ne
    · rw [if_pos (nI_lt c (by omega)), show min ne 12 = 12 from by omega]
    · rw [if_neg (nI_nlt (by omega) (by decide)), show min ne 12 = ne from by omega]
  unfold f_X3_record f_X2_tellEvent
  rw [e2, hm, if_neg (nI_pos (by omega)), if_neg (nI_nlt hr (by omega))]
  rfl
end TA

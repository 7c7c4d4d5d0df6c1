/-! when a way opens, when a duel is due: it is so when it is told -/
/-- some way is open so many hours later -/
def NE (u : Nat → Int32) (nq k i j al : Nat) (d : Int) : Prop := (¬ (9 : Int32) < pv u i 0 + qv u k 2 ∧ al.testBit 0 = true) ∨ (SB u i j (qv u k 2) ∧ al.testBit 1 = true) ∨ ((u 0 * qv u k 2).toInt ≤ (u 4).toInt - (qv u k 3).toInt + d ∧ al.testBit 2 = true) ∨ (OB u i j d ∧ al.testBit 3 = true) ∨ (PC u nq i j d ∧ al.testBit 4 = true)
theorem wz_p2 (al : Fin 32) {a b c d e : Bool} {P1 P2 P3 P4 P5 : Prop} (h1 : a = true ↔ P1) (h2 : b = true ↔ P2) (h3 : c = true ↔ P3) (h4 : d = true ↔ P4) (h5 : e = true ↔ P5) : (¬ wz a b c d e (nI al.1) = 0) ↔ (P1 ∧ al.1.testBit 0 = true) ∨ (P2 ∧ al.1.testBit 1 = true) ∨ (P3 ∧ al.1.testBit 2 = true) ∨ (P4 ∧ al.1.testBit 3 = true) ∨ (P5 ∧ al.1.testBit 4 = true) := by
  rw [← h1, ← h2, ← h3, ← h4, ← h5]
  have h := dec_not (w := wz a b c d e (nI al.1) = 0) (x := (a && al.1.testBit 0) || (b && al.1.testBit 1) || (c && al.1.testBit 2) || (d && al.1.testBit 3) || (e && al.1.testBit 4)) (wz_zero al a b c d e)
  rw [h]
  simp only [Bool.or_eq_true, Bool.and_eq_true, or_assoc]
theorem wz_32p (al : Fin 32) {a b : Bool} (c d e : Bool) {P1 P2 : Prop} (h1 : a = true ↔ P1) (h2 : b = true ↔ P2) : (¬ wz a b c d e (nI al.1) &&& 3 = 0) ↔ (P1 ∧ al.1.testBit 0 = true) ∨ (P2 ∧ al.1.testBit 1 = true) := by
  rw [← h1, ← h2]
  exact wz_3p al a b c d e
section TE
variable {B : Nat} {t : TT} {u : Nat → Int32} {np nq : Nat}
theorem NE_now (hR : RT B t u) (hS : US u) (hN : UN u np nq) {k : Nat} (hk : k < nq) (h0 : qv u k 4 = 0) : ∃ (i j : Nat) (al W : Fin 32), i < np ∧ j < np ∧ i ≠ j ∧ qv u k 0 = nI i ∧ qv u k 1 = nI j ∧ u 46 = nI al.1 ∧ f_X2_waysOf t (nI k) = some (nI W.1) ∧ (¬ nI W.1 = 0 ↔ NE u nq k i j al.1 0) ∧ ((¬ nI W.1 &&& 3 = 0) ↔ (¬ (9 : Int32) < pv u i 0 + qv u k 2 ∧ al.1.testBit 0 = true) ∨ (SB u i j (qv u k 2) ∧ al.1.testBit 1 = true)) := by
  obtain ⟨i, j, al, a, b, c, d, e, hi, hj, hij, e0, e1, ea, g1, g2, g3, g4, g5, g6⟩ := open_ways hR hS hN hk h0
  obtain ⟨W, eW⟩ := wz_32 a b c d e al
  have hsc := (sc_b hS hN hk).1
  have g3' : c = true ↔ (u 0 * qv u k 2).toInt ≤ (u 4).toInt - (qv u k 3).toInt + 0 := by
    rw [g3, ti_lt, hsc]; omega
  refine ⟨i, j, al, W, hi, hj, hij, e0, e1, ea, by rw [g6, eW], ?_, ?_⟩
  · rw [← eW]
    exact wz_p2 al g1 g2 g3' g4 g5
  · rw [← eW]
    exact wz_32p al c d e g1 g2
theorem NE_shift {k i j al a : Nat} {b : Int} (hnq : nq ≤ 12) (hk : k < nq) (hi : i < 10) (hj : j < 10) (es : (u 4 + nI a).toInt = (u 4).toInt + a) : NE (upd u 4 (u 4 + nI a)) nq k i j al b ↔ NE u nq k i j al (a + b) := by
  have v : ∀ n, n ≠ 4 → upd u 4 (u 4 + nI a) n = u n := fun n hn => pk_un hn
  have s : SB (upd u 4 (u 4 + nI a)) i j (qv u k 2) ↔ SB u i j (qv u k 2) := by
    unfold SB
    constructor
    · rintro ⟨x, y, hx, hy, z1, z2, z3, z4, z5, z6⟩
      refine ⟨x, y, hx, hy, z1, z2, z3, ?_, ?_, ?_⟩
      · rw [← z4]; exact (v _ (by omega)).symm
      · rw [← z5]; exact (v _ (by omega)).symm
      · rw [show pv (upd u 4 (u 4 + nI a)) x 1 = pv u x 1 from v _ (by omega), show pv (upd u 4 (u 4 + nI a)) y 1 = pv u y 1 from v _ (by omega)] at z6
        exact z6
    · rintro ⟨x, y, hx, hy, z1, z2, z3, z4, z5, z6⟩
      refine ⟨x, y, hx, hy, z1, z2, z3, (v _ (by omega)).trans z4, (v _ (by omega)).trans z5, ?_⟩
      rw [show pv (upd u 4 (u 4 + nI a)) x 1 = pv u x 1 from v _ (by omega), show pv (upd u 4 (u 4 + nI a)) y 1 = pv u y 1 from v _ (by omega)]
      exact z6
  have o : OB (upd u 4 (u 4 + nI a)) i j b ↔ OB u i j (a + b) := by
    unfold OB
    rw [pk_us, es, show pv (upd u 4 (u 4 + nI a)) i 3 = pv u i 3 from v _ (by omega), show pv (upd u 4 (u 4 + nI a)) j 3 = pv u j 3 from v _ (by omega)]
    omega
  have p : PC (upd u 4 (u 4 + nI a)) nq i j b ↔ PC u nq i j (a + b) := by
    unfold PC
    constructor
    · rintro ⟨q, hq, z1, z2, z3⟩
      rw [show qv (upd u 4 (u 4 + nI a)) q 4 = qv u q 4 from v _ (by omega)] at z1
      rw [show qv (upd u 4 (u 4 + nI a)) q 0 = qv u q 0 from v _ (by omega), show qv (upd u 4 (u 4 + nI a)) q 1 = qv u q 1 from v _ (by omega)] at z2
      rw [show qv (upd u 4 (u 4 + nI a)) q 7 = qv u q 7 from v _ (by omega), v 3 (by omega), pk_us, es] at z3
      exact ⟨q, hq, z1, z2, by omega⟩
    · rintro ⟨q, hq, z1, z2, z3⟩
      refine ⟨q, hq, (v _ (by omega)).trans z1, ?_, ?_⟩
      · rw [show qv (upd u 4 (u 4 + nI a)) q 0 = qv u q 0 from v _ (by omega), show qv (upd u 4 (u 4 + nI a)) q 1 = qv u q 1 from v _ (by omega)]
        exact z2
      · rw [show qv (upd u 4 (u 4 + nI a)) q 7 = qv u q 7 from v _ (by omega), v 3 (by omega), pk_us, es]
        omega
  unfold NE
  rw [show qv (upd u 4 (u 4 + nI a)) k 2 = qv u k 2 from v _ (by omega), show qv (upd u 4 (u 4 + nI a)) k 3 = qv u k 3 from v _ (by omega), show pv (upd u 4 (u 4 + nI a)) i 0 = pv u i 0 from v _ (by omega), v 0 (by omega), pk_us, es, s, o, p]
  have q : (u 0 * qv u k 2).toInt ≤ (u 4).toInt + a - (qv u k 3).toInt + b ↔ (u 0 * qv u k 2).toInt ≤ (u 4).toInt - (qv u k 3).toInt + (a + b) := by omega
  rw [q]
theorem hasQ9 (hR : RT B t u) (hN : UN u np nq) {k : Nat} (hk : k < nq) (hh : HH) (pp : PP) : (f_X3_opensIn t hh pp (nI k) = if qv u k 4 = 0 then ((f_X2_hoursUntilWay t (nI k)).bind fun x7 => some x7) else some (-5)) ∧ (f_X3_dueIn t hh pp (nI k) = if qv u k 4 = 0 then ((f_X2_hoursUntilDuel t (nI k)).bind fun x7 => some x7) else some (-5)) := by
  have hk12 : k < 12 := by have := hN.2.1; omega
  unfold f_X3_opensIn f_X3_dueIn
  rw [ob (hasQ1 hR hN hk), ob (hasQ1 hR hN hk), if_neg n10, if_neg n10, ob (isOpen_e hR hk12), ob (isOpen_e hR hk12)]
  by_cases c : qv u k 4 = 0
  · rw [if_pos c, if_pos c, if_pos c, if_neg n10, if_neg n10]
    exact ⟨rfl, rfl⟩
  · rw [if_neg c, if_neg c, if_neg c, if_pos rfl, if_pos rfl]
    exact ⟨rfl, rfl⟩
/-- the hours until a way opens -/
theorem opens2_e (hR : RT B t u) (hS : US u) (hN : UN u np nq) {k : Nat} (hk : k < nq) (h0 : qv u k 4 = 0) {i j : Nat} {al W : Fin 32} (ea : u 46 = nI al.1) (hW : f_X2_waysOf t (nI k) = some (nI W.1)) (hne : ¬ nI W.1 = 0 ↔ NE u nq k i j al.1 0) (hnq : nq ≤ 12) (hh : HH) (pp : PP) :
    ∃ x : Int32, f_X3_opensIn t hh pp (nI k) = some x ∧ (x = 0 ↔ NE u nq k i j al.1 0) ∧ (0 < x.toInt → (NE u nq k i j al.1 x.toInt ∧ ∀ z : Int, 0 ≤ z → z < x.toInt → ¬ NE u nq k i j al.1 z)) := by
  have hk12 : k < 12 := by omega
  have hC := cr_b hS hN hk
  obtain ⟨s1, s2⟩ := sc_b hS hN hk
  have eCS : (u 0 * qv u k 2 - (u 4 - qv u k 3)).toInt = (u 0 * qv u k 2).toInt - ((u 4).toInt - (qv u k 3).toInt) := by
    rw [← s1]; exact ti_sub (by omega) (by omega)
  have ac : f_X2_hoursUntilCool t (nI k) = some (u 0 * qv u k 2 - (u 4 - qv u k 3)) := by
    unfold f_X2_hoursUntilCool f_X2_hoursToCool
    rw [ob (rq2 hR hk12), ob (rs0 hR), ob rfl, ob (hoursSince_e hR hk12)]
  rw [(hasQ9 hR hN hk hh pp).1, if_pos h0]
  unfold f_X2_hoursUntilWay f_X2_allows f_X2_orNoneIfTooFar
  rw [ob hW, hR.2.1, ea]
  by_cases c : nI W.1 = 0
  · have hn : ¬ NE u nq k i j al.1 0 := fun d => hne.2 d c
    rw [if_pos c]
    by_cases c2 : nI al.1 &&& ((1 : Int32) <<< ((2 : Int32) &&& 31)) = 0
    · refine ⟨-6, by rw [if_pos c2, ob rfl, if_pos rfl, ob rfl], ⟨fun d => absurd d (by decide), fun d => absurd d hn⟩, fun d => absurd d (by decide)⟩
    · have t2 := (al_2p al).1 c2
      have hc0 : ¬ (u 0 * qv u k 2).toInt ≤ (u 4).toInt - (qv u k 3).toInt + 0 := fun d => hn (Or.inr (Or.inr (Or.inl ⟨d, t2⟩)))
      rw [if_neg c2, ob rfl, if_neg n10, ob ac]
      by_cases c3 : u 0 * qv u k 2 - (u 4 - qv u k 3) ≤ 500
      · refine ⟨_, by rw [if_pos c3, ob rfl, ob rfl], ?_, fun _ => ⟨?_, fun z h1 h2 d => ?_⟩⟩
        · rw [ti_eq, eCS, ti_0]
          exact ⟨fun d => by omega, fun d => absurd d hn⟩
        · exact Or.inr (Or.inr (Or.inl ⟨by rw [eCS]; omega, t2⟩))
        · rw [eCS] at h2
          rcases d with d | d | d | d | d
          · exact hn (Or.inl d)
          · exact hn (Or.inr (Or.inl d))
          · have := d.1; omega
          · refine hn (Or.inr (Or.inr (Or.inr (Or.inl ⟨?_, d.2⟩))))
            have := d.1
            unfold OB at this ⊢
            omega
          · refine hn (Or.inr (Or.inr (Or.inr (Or.inr ⟨?_, d.2⟩))))
            obtain ⟨q, z1, z2, z3, z4⟩ := d.1
            exact ⟨q, z1, z2, z3, by omega⟩
      · refine ⟨-6, by rw [if_neg c3, ob rfl, ob rfl], ⟨fun d => absurd d (by decide), fun d => absurd d hn⟩, fun d => absurd d (by decide)⟩
  · refine ⟨0, by rw [if_neg c, ob rfl], ⟨fun _ => hne.1 c, fun _ => rfl⟩, fun d => absurd d (by decide)⟩
/-- the hours until a duel is due -/
abbrev DU (u : Nat → Int32) (nq k i j al : Nat) (d : Int) : Prop := ¬ NE u nq k i j al d ∧ (u 1).toInt ≤ (u 4).toInt - (qv u k 3).toInt + d
theorem due3_e (hR : RT B t u) (hS : US u) (hN : UN u np nq) {k : Nat} (hk : k < nq) (h0 : qv u k 4 = 0) {i j : Nat} (hi : i < np) (hj : j < np) (e0 : qv u k 0 = nI i) (e1 : qv u k 1 = nI j) {al W : Fin 32} (ea : u 46 = nI al.1) (hW : f_X2_waysOf t (nI k) = some (nI W.1)) (hne : ¬ nI W.1 = 0 ↔ NE u nq k i j al.1 0) (h3 : (¬ nI W.1 &&& 3 = 0) ↔ (¬ (9 : Int32) < pv u i 0 + qv u k 2 ∧ al.1.testBit 0 = true) ∨ (SB u i j (qv u k 2) ∧ al.1.testBit 1 = true)) (hh : HH) (pp : PP) :
    ∃ x : Int32, f_X3_dueIn t hh pp (nI k) = some x ∧ (x = 0 ↔ DU u nq k i j al.1 0) ∧ (0 < x.toInt → (DU u nq k i j al.1 x.toInt ∧ ∀ z : Int, 0 ≤ z → z < x.toInt → ¬ DU u nq k i j al.1 z)) := by
  have hq := hN.2.1
  have hp := hN.1
  have hk12 : k < 12 := by omega
  have hC := cr_b hS hN hk
  obtain ⟨s1, s2⟩ := sc_b hS hN hk
  have x1 : f_X2_oathLeft t (nI i) = some (ol u i) := oathLeft_e hR (by omega)
  have x2 : f_X2_oathLeft t (nI j) = some (ol u j) := oathLeft_e hR (by omega)
  obtain ⟨L, l1, l2, l3⟩ := peace2_e hR hS hN i j
  have b1 := (ol_iff hS hN hi).1
  have b2 := (ol_iff hS hN hj).1
  obtain ⟨⟨p1, p2⟩, p3⟩ := hd_s (C := u 0 * qv u k 2) al hS.2.1 s2 b1 b2 l1
  have hA := hud_e hR hN hk12 e0 e1 x1 x2 l2 ea hW
  obtain ⟨H, eH⟩ : ∃ H, H = hd al.1 (u 1) (u 4 - qv u k 3) (u 0 * qv u k 2) (ol u i) (ol u j) L := ⟨_, rfl⟩
  rw [← eH] at p1 p2 p3 hA
  have eCS : (u 0 * qv u k 2 - (u 4 - qv u k 3)).toInt = (u 0 * qv u k 2).toInt - ((u 4).toInt - (qv u k 3).toInt) := by
    rw [← s1]; exact ti_sub (by omega) (by omega)
  rw [s1] at p3
  have key : ∀ z : Int, 0 ≤ z → (H.toInt ≤ z ↔ ((u 1).toInt ≤ (u 4).toInt - (qv u k 3).toInt + z ∧ (al.1.testBit 3 = true → ¬ OB u i j z) ∧ (al.1.testBit 4 = true → ¬ PC u nq i j z))) := by
    intro z hz
    have ho := OB_iff hS hN hi hj hz
    have hl := l3 z hz
    rw [p3 z hz]
    constructor
    · rintro ⟨a1, a2, a3⟩
      refine ⟨by omega, fun c d => ?_, fun c d => ?_⟩
      · have := a2 c
        have := ho.1 d
        omega
      · have := a3 c
        have := hl.2 d
        omega
    · rintro ⟨a1, a2, a3⟩
      refine ⟨by omega, fun c => ?_, fun c => ?_⟩
      · have := mt ho.2 (a2 c)
        omega
      · have := mt hl.1 (a3 c)
        omega
  rw [(hasQ9 hR hN hk hh pp).2, if_pos h0, ob hA]
  have none : (∀ z : Int, 0 ≤ z → ¬ DU u nq k i j al.1 z) → ∃ x : Int32, some (-6 : Int32) = some x ∧ (x = 0 ↔ DU u nq k i j al.1 0) ∧ (0 < x.toInt → (DU u nq k i j al.1 x.toInt ∧ ∀ z : Int, 0 ≤ z → z < x.toInt → ¬ DU u nq k i j al.1 z)) := fun h => ⟨-6, rfl, ⟨fun d => absurd d (by decide), fun d => absurd d (h 0 (Int.le_refl 0))⟩, fun d => absurd d (by decide)⟩
  by_cases c3 : nI W.1 &&& 3 = 0
  · have n3 := mt h3.2 (not_not_intro c3)
    have yes : (al.1.testBit 2 = true → H.toInt < (u 0 * qv u k 2).toInt - ((u 4).toInt - (qv u k 3).toInt)) → ∀ z : Int, 0 ≤ z → z ≤ H.toInt → (DU u nq k i j al.1 z ↔ H.toInt ≤ z) := by
      intro hlt z hz hzH
      constructor
      · rintro ⟨a1, a2⟩
        refine (key z hz).2 ⟨a2, fun c d => a1 (Or.inr (Or.inr (Or.inr (Or.inl ⟨d, c⟩)))), fun c d => a1 (Or.inr (Or.inr (Or.inr (Or.inr ⟨d, c⟩))))⟩
      · intro hle
        obtain ⟨a1, a2, a3⟩ := (key z hz).1 hle
        refine ⟨?_, a1⟩
        rintro (d | d | d | d | d)
        · exact n3 (Or.inl d)
        · exact n3 (Or.inr d)
        · have := hlt d.2
          have := d.1
          omega
        · exact a2 d.2 d.1
        · exact a3 d.2 d.1
    have fin : (al.1.testBit 2 = true → H.toInt < (u 0 * qv u k 2).toInt - ((u 4).toInt - (qv u k 3).toInt)) → ∃ x : Int32, some (if H ≤ 500 then H else -6) = some x ∧ (x = 0 ↔ DU u nq k i j al.1 0) ∧ (0 < x.toInt → (DU u nq k i j al.1 x.toInt ∧ ∀ z : Int, 0 ≤ z → z < x.toInt → ¬ DU u nq k i j al.1 z)) := by
      intro hlt
      have y := yes hlt
      by_cases c5 : H ≤ 500
      · refine ⟨H, by rw [if_pos c5], ?_, fun h => ⟨(y _ (by omega) (Int.le_refl _)).2 (Int.le_refl _), fun z h1 h2 d => ?_⟩⟩
        · rw [ti_eq, ti_0, y 0 (Int.le_refl 0) p1]
          omega
        · have := (y z h1 (by omega)).1 d
          omega
      · have h5 := mt ti_le.2 c5
        rw [ti_500] at h5
        refine ⟨-6, by rw [if_neg c5], ⟨fun d => absurd d (by decide), fun d => ?_⟩, fun d => absurd d (by decide)⟩
        have := (y 0 (Int.le_refl 0) p1).1 d
        omega
    rw [if_pos c3]
    by_cases c2 : nI al.1 &&& ((1 : Int32) <<< ((2 : Int32) &&& 31)) = 0
    · rw [if_pos c2]
      exact fin (fun c => absurd c2 ((al_2p al).2 c))
    · have t2 := (al_2p al).1 c2
      rw [if_neg c2]
      by_cases c7 : H < u 0 * qv u k 2 - (u 4 - qv u k 3)
      · have h7 := ti_lt.1 c7
        rw [eCS] at h7
        rw [if_pos c7]
        exact fin (fun _ => h7)
      · have h7 := mt ti_lt.2 c7
        rw [eCS] at h7
        rw [if_neg c7]
        refine none (fun z hz d => ?_)
        have h8 := (key z hz).2 ⟨d.2, fun c e => d.1 (Or.inr (Or.inr (Or.inr (Or.inl ⟨e, c⟩)))), fun c e => d.1 (Or.inr (Or.inr (Or.inr (Or.inr ⟨e, c⟩))))⟩
        exact d.1 (Or.inr (Or.inr (Or.inl ⟨by omega, t2⟩)))
  · rw [if_neg c3]
    refine none (fun z hz d => ?_)
    rcases h3.1 c3 with e | e
    · exact d.1 (Or.inl e)
    · exact d.1 (Or.inr (Or.inl e))
theorem why_iff (hR : RT B t u) (hS : US u) (hN : UN u np nq) {k : Nat} (hk : k < nq) (h0 : qv u k 4 = 0) {i j al : Nat} {W : Fin 32} (hW : f_X2_waysOf t (nI k) = some (nI W.1)) (hne : ¬ nI W.1 = 0 ↔ NE u nq k i j al 0) (hh : HH) (pp : PP) : ∃ v : Int32, f_X3_why t hh pp (nI k) = some v ∧ (v = 0 ↔ DU u nq k i j al 0) ∧ ¬ v < 0 := by
  have s1 := (sc_b hS hN hk).1
  refine ⟨vy u (nI W.1) k, why_e hR hN hk hW hh pp, ?_, ?_⟩
  · rw [show vy u (nI W.1) k = (if nI W.1 = 0 then (if u 1 ≤ u 4 - qv u k 3 then 0 else 3) else 2) from if_pos h0]
    by_cases c : nI W.1 = 0
    · have hn : ¬ NE u nq k i j al 0 := fun d => hne.2 d c
      rw [if_pos c]
      by_cases c2 : u 1 ≤ u 4 - qv u k 3
      · rw [if_pos c2]
        have := ti_le.1 c2
        rw [s1] at this
        exact ⟨fun _ => ⟨hn, by omega⟩, fun _ => rfl⟩
      · rw [if_neg c2]
        have := mt ti_le.2 c2
        rw [s1] at this
        exact ⟨fun d => absurd d (by decide), fun d => by have := d.2; omega⟩
    · rw [if_neg c]
      exact ⟨fun d => absurd d (by decide), fun d => absurd (hne.1 c) d.1⟩
  · rw [show vy u (nI W.1) k = (if nI W.1 = 0 then (if u 1 ≤ u 4 - qv u k 3 then 0 else 3) else 2) from if_pos h0]
    split
    · split <;> decide
    · decide
theorem first_iff (hR : RT B t u) (hN : UN u np nq) {k : Nat} (hk : k < nq) {W : Fin 32} (hW : f_X2_waysOf t (nI k) = some (nI W.1)) (hh : HH) (pp : PP) : ∃ F : Int32, f_X3_firstWay t hh pp (nI k) = some F ∧ (F < 0 ↔ nI W.1 = 0) ∧ (nI W.1 = 0 → F = -6) := by
  obtain ⟨F, hF, hF2⟩ := bE (first32 W)
  refine ⟨F, first_e hR hN hk hW hF hh pp, ?_, fun c => ?_⟩
  · by_cases c : nI W.1 = 0
    · rw [if_pos c] at hF2
      by_cases d : F = -6
      · rw [d]; exact ⟨fun _ => c, fun _ => by decide⟩
      · rw [if_neg d] at hF2; exact absurd hF2 (by decide)
    · rw [if_neg c] at hF2
      by_cases d : F < 0
      · rw [if_pos d] at hF2; exact absurd hF2 (by decide)
      · exact ⟨fun e => absurd e d, fun e => absurd e c⟩
  · rw [if_pos c] at hF2
    by_cases d : F = -6
    · exact d
    · rw [if_neg d] at hF2; exact absurd hF2 (by decide)
/-- what stands behind some hours -/
theorem later_e (hR : RT B t u) (hS : US u) (hN : UN u np nq) (hX : XI u np nq) {k : Nat} (hk : k < nq) (h0 : qv u k 4 = 0) {i j : Nat} {al : Fin 32} (hi : i < np) (hj : j < np) (e0 : qv u k 0 = nI i) (e1 : qv u k 1 = nI j) (ea : u 46 = nI al.1) {a : Nat} (h1 : 1 ≤ a) (h2 : a ≤ 99) (h3 : (u 4).toInt + a ≤ 9999) {hh : HH} (hH : HS hh) (pp : PP) :
    ∃ r t1 h9 F v, f_X3_pass t hh pp (nI a) = some (r, t1, h9) ∧ ¬ r < 0 ∧ (f_X3_firstWay t1 h9 pp (nI k) = some F ∧ (F < 0 ↔ ¬ NE u nq k i j al.1 a) ∧ (¬ NE u nq k i j al.1 a → F = -6)) ∧ (f_X3_why t1 h9 pp (nI k) = some v ∧ (v = 0 ↔ DU u nq k i j al.1 a) ∧ ¬ v < 0) ∧ ∃ z t2 h8, f_X3_undo t1 h9 pp = some (z, t2, h8) ∧ ¬ z < 0 ∧ HS h8 ∧ RT B t2 u := by
  have hq := hN.2.1
  have hp := hN.1
  obtain ⟨r, h9, p1, p2, p3, p4, R1, S1, N1, X1, es⟩ := op2_pass hR hS hN hX h1 h2 h3 hH pp
  have hk' : qv (upd u 4 (u 4 + nI a)) k 4 = 0 := (pk_un (by omega)).trans h0
  obtain ⟨i', j', al', W, hi', hj', _, e0', e1', ea', hW, hne, _⟩ := NE_now R1 S1 N1 hk hk'
  obtain rfl : i' = i := nI_inj (by omega) (by omega) (e0'.symm.trans ((pk_un (by omega)).trans e0))
  obtain rfl : j' = j := nI_inj (by omega) (by omega) (e1'.symm.trans ((pk_un (by omega)).trans e1))
  have hal : al'.1 = al.1 := nI_inj (by omega) (by omega) (ea'.symm.trans ((pk_un (by decide)).trans ea))
  rw [hal, NE_shift hq hk (by omega) (by omega) es, Int.add_zero] at hne
  obtain ⟨F, f1, f2, f3⟩ := first_iff R1 N1 hk hW h9 pp
  obtain ⟨z, t2, h8, u1, u2, u3, u4'⟩ := p4 (T0 t (u 4 + nI a)) pp
  have hne' : ¬ nI W.1 = 0 ↔ NE (upd u 4 (u 4 + nI a)) nq k i' j' al.1 0 := by
    rw [NE_shift hq hk (by omega) (by omega) es, Int.add_zero]
    exact hne
  obtain ⟨v, v1, v2, v3⟩ := why_iff R1 S1 N1 hk hk' hW hne' h9 pp
  refine ⟨r, _, h9, F, v, p1, p2, ⟨f1, ?_, fun c => f3 (Classical.byContradiction (fun d => c (hne.1 d)))⟩, ⟨v1, ?_, v3⟩, z, t2, h8, u1, u2, u3, u4' B u hR⟩
  · rw [f2, ← hne]
    exact ⟨fun c d => d c, fun c => Classical.byContradiction c⟩
  · rw [v2]
    show (¬ NE (upd u 4 (u 4 + nI a)) nq k i' j' al.1 0 ∧ (upd u 4 (u 4 + nI a) 1).toInt ≤ (upd u 4 (u 4 + nI a) 4).toInt - (qv (upd u 4 (u 4 + nI a)) k 3).toInt + 0) ↔ _
    rw [NE_shift hq hk (by omega) (by omega) es, Int.add_zero, pk_un (by decide), pk_us, es, show qv (upd u 4 (u 4 + nI a)) k 3 = qv u k 3 from pk_un (by omega)]
    show _ ↔ (¬ NE u nq k i' j' al.1 a ∧ (u 1).toInt ≤ (u 4).toInt - (qv u k 3).toInt + a)
    constructor
    · rintro ⟨a1, a2⟩; exact ⟨a1, by omega⟩
    · rintro ⟨a1, a2⟩; exact ⟨a1, by omega⟩
end TE

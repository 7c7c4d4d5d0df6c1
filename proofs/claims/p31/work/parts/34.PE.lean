/-! when a way opens, when a duel is due -/
theorem dec_not {w : Prop} [Decidable w] {x : Bool} (h : decide w = !x) : ¬ w ↔ x = true := by
  cases x
  · have hp : w := of_decide_eq_true h
    exact ⟨fun c => absurd hp c, fun c => by cases c⟩
  · have hp : ¬ w := of_decide_eq_false h
    exact ⟨fun _ => rfl, fun _ => hp⟩
abbrev WP (a b t0 t1 t2 t3 t4 : Bool) (x y z : Prop) : Prop := (a = true ∧ t0 = true) ∨ (b = true ∧ t1 = true) ∨ (x ∧ t2 = true) ∨ (y ∧ t3 = true) ∨ (z ∧ t4 = true)
theorem wz_p (al : Fin 32) (a b : Bool) {x y z : Prop} [Decidable x] [Decidable y] [Decidable z] : (¬ wz a b (decide x) (decide y) (decide z) (nI al.1) = 0) ↔ WP a b (al.1.testBit 0) (al.1.testBit 1) (al.1.testBit 2) (al.1.testBit 3) (al.1.testBit 4) x y z := by
  refine (dec_not (wz_zero al a b (decide x) (decide y) (decide z))).trans ?_
  simp only [Bool.or_eq_true, Bool.and_eq_true, decide_eq_true_eq, or_assoc]
theorem wz_3p (al : Fin 32) (a b c d e : Bool) : (¬ wz a b c d e (nI al.1) &&& 3 = 0) ↔ (a = true ∧ al.1.testBit 0 = true) ∨ (b = true ∧ al.1.testBit 1 = true) := by
  refine (dec_not (wz_three al a b c d e)).trans ?_
  simp only [Bool.or_eq_true, Bool.and_eq_true]
theorem al_2p (al : Fin 32) : (¬ nI al.1 &&& ((1 : Int32) <<< ((2 : Int32) &&& 31)) = 0) ↔ al.1.testBit 2 = true := dec_not (al_bit al 2)
theorem al_3p (al : Fin 32) : (¬ nI al.1 &&& ((1 : Int32) <<< ((3 : Int32) &&& 31)) = 0) ↔ al.1.testBit 3 = true := dec_not (al_bit al 3)
theorem al_4p (al : Fin 32) : (¬ nI al.1 &&& ((1 : Int32) <<< ((4 : Int32) &&& 31)) = 0) ↔ al.1.testBit 4 = true := dec_not (al_bit al 4)
theorem mul_b {x y : Int} (h1 : 0 ≤ x) (h2 : x ≤ 48) (h3 : 0 ≤ y) (h4 : y ≤ 9) : 0 ≤ x * y ∧ x * y ≤ 432 := by
  have h5 := Int.mul_le_mul h2 h4 h3 (by omega : (0 : Int) ≤ 48)
  exact ⟨Int.mul_nonneg h1 h3, by omega⟩
theorem nI_i {i : Nat} (h : i ≤ 20000) : (nI i).toInt = (i : Int) := nI_toInt (by omega)
theorem nI_toNat {x : Int32} (h1 : 0 ≤ x.toInt) (h2 : x.toInt ≤ 20000) : nI x.toInt.toNat = x := by
  rw [ti_eq, nI_i (by omega)]; omega
theorem later_iff {S C : Int32} (hC : 0 ≤ C.toInt ∧ C.toInt ≤ 432) (hS : -9999 ≤ S.toInt ∧ S.toInt ≤ 9999) {i : Nat} (hi : i ≤ 500) : (¬ S + nI i < C) ↔ C.toInt - S.toInt ≤ (i : Int) := by
  have e : (S + nI i).toInt = S.toInt + i := by
    have := ti_add (x := S) (y := nI i) (by rw [nI_i (by omega)]; omega) (by rw [nI_i (by omega)]; omega)
    rw [nI_i (by omega)] at this
    exact this
  rw [ti_lt, e]; omega
theorem opens_core (a b : Bool) (al : Fin 32) {S C O1 O2 L : Int32} (hC : 0 ≤ C.toInt ∧ C.toInt ≤ 432) (hS : -9999 ≤ S.toInt ∧ S.toInt ≤ 9999) (W : Nat → Int32)
    (hW : ∀ i, W i = wz a b (decide (¬ S + nI i < C)) (decide ((nI i).toInt < O1.toInt ∨ (nI i).toInt < O2.toInt)) (decide ((nI i).toInt ≤ L.toInt)) (nI al.1)) :
    fst (fun i => decide (¬ W i = 0)) 0 501 = if W 0 = 0 then (if nI al.1 &&& ((1 : Int32) <<< ((2 : Int32) &&& 31)) = 0 then -6 else if C - S ≤ 500 then C - S else -6) else 0 := by
  have key : ∀ i, i ≤ 500 → ((¬ W i = 0) ↔ WP a b (al.1.testBit 0) (al.1.testBit 1) (al.1.testBit 2) (al.1.testBit 3) (al.1.testBit 4) (C.toInt - S.toInt ≤ (i : Int)) ((i : Int) < O1.toInt ∨ (i : Int) < O2.toInt) ((i : Int) ≤ L.toInt)) := by
    intro i hi
    rw [hW i, wz_p, later_iff hC hS hi, nI_i (by omega)]
  have eCS : (C - S).toInt = C.toInt - S.toInt := ti_sub (by omega) (by omega)
  by_cases h0 : W 0 = 0
  · rw [if_pos h0]
    have k0 := mt (key 0 (by omega)).2 (not_not_intro h0)
    have g1 : ¬ (a = true ∧ al.1.testBit 0 = true) := fun c => k0 (Or.inl c)
    have g2 : ¬ (b = true ∧ al.1.testBit 1 = true) := fun c => k0 (Or.inr (Or.inl c))
    have g3 : al.1.testBit 2 = true → ¬ C.toInt - S.toInt ≤ ((0 : Nat) : Int) := fun c d => k0 (Or.inr (Or.inr (Or.inl ⟨d, c⟩)))
    have g4 : al.1.testBit 3 = true → ¬ (((0 : Nat) : Int) < O1.toInt ∨ ((0 : Nat) : Int) < O2.toInt) := fun c d => k0 (Or.inr (Or.inr (Or.inr (Or.inl ⟨d, c⟩))))
    have g5 : al.1.testBit 4 = true → ¬ ((0 : Nat) : Int) ≤ L.toInt := fun c d => k0 (Or.inr (Or.inr (Or.inr (Or.inr ⟨d, c⟩))))
    have key2 : ∀ i, i ≤ 500 → ((¬ W i = 0) ↔ (C.toInt - S.toInt ≤ (i : Int) ∧ al.1.testBit 2 = true)) := by
      intro i hi
      rw [key i hi]
      constructor
      · rintro (c | c | c | ⟨c, d⟩ | ⟨c, d⟩)
        · exact absurd c g1
        · exact absurd c g2
        · exact c
        · exfalso; have := g4 d; omega
        · exfalso; have := g5 d; omega
      · intro c; exact Or.inr (Or.inr (Or.inl c))
    by_cases h2 : nI al.1 &&& ((1 : Int32) <<< ((2 : Int32) &&& 31)) = 0
    · rw [if_pos h2]
      refine fst_none 501 0 (fun i _ hi => ?_)
      rw [decide_eq_false_iff_not, key2 i (by omega)]
      intro c
      exact (al_2p al).2 c.2 h2
    · rw [if_neg h2]
      have t2 := (al_2p al).1 h2
      have hv := g3 t2
      by_cases h5 : C - S ≤ 500
      · rw [if_pos h5]
        have h6 := ti_le.1 h5
        rw [ti_500, eCS] at h6
        have hn : nI (C - S).toInt.toNat = C - S := nI_toNat (by rw [eCS]; omega) (by rw [eCS]; omega)
        rw [← hn]
        refine fst_some ?_ 501 0 (by omega) (by rw [eCS]; omega) (fun i _ hi => ?_)
        · rw [decide_eq_true_eq, key2 _ (by rw [eCS]; omega)]
          refine ⟨?_, t2⟩
          rw [eCS]; omega
        · rw [eCS] at hi
          rw [decide_eq_false_iff_not, key2 i (by omega)]
          intro c
          have := c.1
          omega
      · rw [if_neg h5]
        have h6 := mt ti_le.2 h5
        rw [ti_500, eCS] at h6
        refine fst_none 501 0 (fun i _ hi => ?_)
        rw [decide_eq_false_iff_not, key2 i (by omega)]
        intro c
        have := c.1
        omega
  · rw [if_neg h0]
    exact fst_some (v := 0) (by rw [decide_eq_true_eq]; exact h0) 501 0 (Nat.le_refl 0) (by omega) (fun i _ hi => absurd hi (Nat.not_lt_zero i))
theorem mx_s (x y : Int32) : x.toInt ≤ (if x < y then y else x).toInt ∧ y.toInt ≤ (if x < y then y else x).toInt ∧ ((if x < y then y else x) = x ∨ (if x < y then y else x) = y) := by
  by_cases h : x < y
  · rw [if_pos h]
    have := ti_lt.1 h
    exact ⟨by omega, Int.le_refl _, Or.inr rfl⟩
  · rw [if_neg h]
    have := mt ti_lt.2 h
    exact ⟨Int.le_refl _, by omega, Or.inl rfl⟩
/-- the hours until a duel is due, as the program adds them up -/
def hd (al : Nat) (N S C O1 O2 L : Int32) : Int32 :=
  let h0 := if (0 : Int32) < N - S then N - S else 0
  let m0 := if O1 < O2 then O2 else O1
  let h1 := if nI al &&& ((1 : Int32) <<< ((3 : Int32) &&& 31)) = 0 then h0 else (if h0 < m0 then m0 else h0)
  let h2 := if nI al &&& ((1 : Int32) <<< ((4 : Int32) &&& 31)) = 0 then h1 else (if h1 < L + 1 then L + 1 else h1)
  h2
theorem hd_s (al : Fin 32) {N S C O1 O2 L : Int32} (hN : 0 ≤ N.toInt ∧ N.toInt ≤ 99) (hS : -9999 ≤ S.toInt ∧ S.toInt ≤ 9999) (b1 : 0 ≤ O1.toInt ∧ O1.toInt ≤ 10199) (b2 : 0 ≤ O2.toInt ∧ O2.toInt ≤ 10199) (b3 : -1 ≤ L.toInt ∧ L.toInt ≤ 10400) :
    (0 ≤ (hd al.1 N S C O1 O2 L).toInt ∧ (hd al.1 N S C O1 O2 L).toInt ≤ 10401) ∧
    ∀ i : Int, 0 ≤ i → ((hd al.1 N S C O1 O2 L).toInt ≤ i ↔ (N.toInt - S.toInt ≤ i ∧ (al.1.testBit 3 = true → O1.toInt ≤ i ∧ O2.toInt ≤ i) ∧ (al.1.testBit 4 = true → L.toInt + 1 ≤ i))) := by
  have e0 : (N - S).toInt = N.toInt - S.toInt := ti_sub (by omega) (by omega)
  have e1 : (L + 1).toInt = L.toInt + 1 := by
    have := ti_add (x := L) (y := 1) (by rw [ti_1]; omega) (by rw [ti_1]; omega)
    rw [ti_1] at this
    exact this
  have a3 := al_3p al
  have a4 := al_4p al
  unfold hd
  obtain ⟨h0, eh0⟩ : ∃ h0, h0 = (if (0 : Int32) < N - S then N - S else 0) := ⟨_, rfl⟩
  obtain ⟨m0, em0⟩ : ∃ m0, m0 = (if O1 < O2 then O2 else O1) := ⟨_, rfl⟩
  have s0 := mx_s 0 (N - S)
  have s1 := mx_s O1 O2
  have s2 := mx_s h0 m0
  simp only
  rw [← eh0, ← em0]
  rw [← eh0, ti_0, e0] at s0
  rw [← em0] at s1
  have q0 : h0.toInt = 0 ∨ h0.toInt = N.toInt - S.toInt := by
    rcases s0.2.2 with c | c
    · left; rw [c, ti_0]
    · right; rw [c, e0]
  have q1 : m0.toInt = O1.toInt ∨ m0.toInt = O2.toInt := by
    rcases s1.2.2 with c | c
    · left; rw [c]
    · right; rw [c]
  by_cases c3 : nI al.1 &&& ((1 : Int32) <<< ((3 : Int32) &&& 31)) = 0
  · have t3 : ¬ al.1.testBit 3 = true := fun c => a3.2 c c3
    rw [if_pos c3]
    by_cases c4 : nI al.1 &&& ((1 : Int32) <<< ((4 : Int32) &&& 31)) = 0
    · have t4 : ¬ al.1.testBit 4 = true := fun c => a4.2 c c4
      rw [if_pos c4]
      refine ⟨by omega, fun i hi => ⟨fun h => ⟨by omega, fun c => absurd c t3, fun c => absurd c t4⟩, fun h => ?_⟩⟩
      have := h.1
      omega
    · have t4 := a4.1 c4
      rw [if_neg c4]
      have s3 := mx_s h0 (L + 1)
      obtain ⟨z, ez⟩ : ∃ z, z = (if h0 < L + 1 then L + 1 else h0) := ⟨_, rfl⟩
      rw [← ez] at s3 ⊢
      have q3 : z.toInt = h0.toInt ∨ z.toInt = L.toInt + 1 := by
        rcases s3.2.2 with c | c
        · left; rw [c]
        · right; rw [c, e1]
      rw [e1] at s3
      refine ⟨by omega, fun i hi => ⟨fun h => ⟨by omega, fun c => absurd c t3, fun _ => by omega⟩, fun h => ?_⟩⟩
      have := h.1
      have := h.2.2 t4
      omega
  · have t3 := a3.1 c3
    rw [if_neg c3]
    obtain ⟨y, ey⟩ : ∃ y, y = (if h0 < m0 then m0 else h0) := ⟨_, rfl⟩
    rw [← ey] at s2 ⊢
    have q2 : y.toInt = h0.toInt ∨ y.toInt = m0.toInt := by
      rcases s2.2.2 with c | c
      · left; rw [c]
      · right; rw [c]
    by_cases c4 : nI al.1 &&& ((1 : Int32) <<< ((4 : Int32) &&& 31)) = 0
    · have t4 : ¬ al.1.testBit 4 = true := fun c => a4.2 c c4
      rw [if_pos c4]
      refine ⟨by omega, fun i hi => ⟨fun h => ⟨by omega, fun _ => by omega, fun c => absurd c t4⟩, fun h => ?_⟩⟩
      have := h.1
      have := h.2.1 t3
      omega
    · have t4 := a4.1 c4
      rw [if_neg c4]
      have s3 := mx_s y (L + 1)
      obtain ⟨z, ez⟩ : ∃ z, z = (if y < L + 1 then L + 1 else y) := ⟨_, rfl⟩
      rw [← ez] at s3 ⊢
      have q3 : z.toInt = y.toInt ∨ z.toInt = L.toInt + 1 := by
        rcases s3.2.2 with c | c
        · left; rw [c]
        · right; rw [c, e1]
      rw [e1] at s3
      refine ⟨by omega, fun i hi => ⟨fun h => ⟨by omega, fun _ => by omega, fun _ => by omega⟩, fun h => ?_⟩⟩
      have := h.1
      have := h.2.1 t3
      have := h.2.2 t4
      omega
theorem due_core (a b : Bool) (al : Fin 32) {N S C O1 O2 L : Int32} (hN : 0 ≤ N.toInt ∧ N.toInt ≤ 99) (hC : 0 ≤ C.toInt ∧ C.toInt ≤ 432) (hS : -9999 ≤ S.toInt ∧ S.toInt ≤ 9999) (b1 : 0 ≤ O1.toInt ∧ O1.toInt ≤ 10199) (b2 : 0 ≤ O2.toInt ∧ O2.toInt ≤ 10199) (b3 : -1 ≤ L.toInt ∧ L.toInt ≤ 10400) (W R : Nat → Int32) (W0 : Int32)
    (hW : ∀ i, W i = wz a b (decide (¬ S + nI i < C)) (decide ((nI i).toInt < O1.toInt ∨ (nI i).toInt < O2.toInt)) (decide ((nI i).toInt ≤ L.toInt)) (nI al.1))
    (hR : ∀ i, R i = if W i = 0 then (if N ≤ S + nI i then 0 else 3) else 2) (hW0 : (¬ W0 &&& 3 = 0) ↔ (a = true ∧ al.1.testBit 0 = true) ∨ (b = true ∧ al.1.testBit 1 = true)) :
    fst (fun i => decide (R i = 0)) 0 501 = if W0 &&& 3 = 0 then (if nI al.1 &&& ((1 : Int32) <<< ((2 : Int32) &&& 31)) = 0 then (if hd al.1 N S C O1 O2 L ≤ 500 then hd al.1 N S C O1 O2 L else -6) else if hd al.1 N S C O1 O2 L < C - S then (if hd al.1 N S C O1 O2 L ≤ 500 then hd al.1 N S C O1 O2 L else -6) else -6) else -6 := by
  obtain ⟨⟨p1, p2⟩, p3⟩ := hd_s (C := C) al hN hS b1 b2 b3
  obtain ⟨H, eH⟩ : ∃ H, H = hd al.1 N S C O1 O2 L := ⟨_, rfl⟩
  rw [← eH] at p1 p2 p3 ⊢
  have eCS : (C - S).toInt = C.toInt - S.toInt := ti_sub (by omega) (by omega)
  have key : ∀ i : Nat, i ≤ 500 → (R i = 0 ↔ (¬ ((a = true ∧ al.1.testBit 0 = true) ∨ (b = true ∧ al.1.testBit 1 = true)) ∧ (al.1.testBit 2 = true → (i : Int) < C.toInt - S.toInt) ∧ H.toInt ≤ (i : Int))) := by
    intro i hi
    have eS : (S + nI i).toInt = S.toInt + i := by
      have := ti_add (x := S) (y := nI i) (by rw [nI_i (by omega)]; omega) (by rw [nI_i (by omega)]; omega)
      rw [nI_i (by omega)] at this
      exact this
    have kw : (¬ W i = 0) ↔ WP a b (al.1.testBit 0) (al.1.testBit 1) (al.1.testBit 2) (al.1.testBit 3) (al.1.testBit 4) (C.toInt - S.toInt ≤ (i : Int)) ((i : Int) < O1.toInt ∨ (i : Int) < O2.toInt) ((i : Int) ≤ L.toInt) := by
      rw [hW i, wz_p, later_iff hC hS hi, nI_i (by omega)]
    have pp3 := p3 (i : Int) (by omega)
    rw [hR i]
    by_cases hw : W i = 0
    · rw [if_pos hw]
      have k0 := mt kw.2 (not_not_intro hw)
      have kn : N ≤ S + nI i ↔ N.toInt - S.toInt ≤ (i : Int) := by rw [ti_le, eS]; omega
      have k1 : (if N ≤ S + nI i then (0 : Int32) else 3) = 0 ↔ N ≤ S + nI i := by
        by_cases c : N ≤ S + nI i
        · rw [if_pos c]; exact ⟨fun _ => c, fun _ => rfl⟩
        · rw [if_neg c]; exact ⟨fun d => absurd d (by decide), fun d => absurd d c⟩
      rw [k1, kn]
      constructor
      · intro hn
        refine ⟨fun c => k0 (c.elim Or.inl (fun d => Or.inr (Or.inl d))), fun t2 => ?_, pp3.2 ⟨hn, fun t3 => ?_, fun t4 => ?_⟩⟩
        · by_cases c : C.toInt - S.toInt ≤ (i : Int)
          · exact absurd (Or.inr (Or.inr (Or.inl ⟨c, t2⟩))) k0
          · omega
        · by_cases c : (i : Int) < O1.toInt ∨ (i : Int) < O2.toInt
          · exact absurd (Or.inr (Or.inr (Or.inr (Or.inl ⟨c, t3⟩)))) k0
          · omega
        · by_cases c : (i : Int) ≤ L.toInt
          · exact absurd (Or.inr (Or.inr (Or.inr (Or.inr ⟨c, t4⟩)))) k0
          · omega
      · intro h
        exact (pp3.1 h.2.2).1
    · rw [if_neg hw]
      constructor
      · intro c; exact absurd c (by decide)
      · intro h
        exfalso
        have h3 := pp3.1 h.2.2
        rcases kw.1 hw with c | c | ⟨c, d⟩ | ⟨c, d⟩ | ⟨c, d⟩
        · exact h.1 (Or.inl c)
        · exact h.1 (Or.inr c)
        · have := h.2.1 d; omega
        · have := h3.2.1 d; omega
        · have := h3.2.2 d; omega
  by_cases h3 : W0 &&& 3 = 0
  · rw [if_pos h3]
    have n3 := mt hW0.2 (not_not_intro h3)
    have far : ∀ (hlt : al.1.testBit 2 = true → H.toInt < C.toInt - S.toInt), fst (fun i => decide (R i = 0)) 0 501 = if H ≤ 500 then H else -6 := by
      intro hlt
      by_cases h5 : H ≤ 500
      · rw [if_pos h5]
        have h6 := ti_le.1 h5
        rw [ti_500] at h6
        have hn : nI H.toInt.toNat = H := nI_toNat p1 (by omega)
        have hc : ((H.toInt.toNat : Nat) : Int) = H.toInt := by omega
        rw [← hn]
        refine fst_some ?_ 501 0 (by omega) (by omega) (fun i _ hi => ?_)
        · rw [decide_eq_true_eq, key _ (by omega), hc]
          exact ⟨n3, hlt, Int.le_refl _⟩
        · rw [decide_eq_false_iff_not, key i (by omega)]
          intro c
          have := c.2.2
          omega
      · rw [if_neg h5]
        have h6 := mt ti_le.2 h5
        rw [ti_500] at h6
        refine fst_none 501 0 (fun i _ hi => ?_)
        rw [decide_eq_false_iff_not, key i (by omega)]
        intro c
        have := c.2.2
        omega
    by_cases h2 : nI al.1 &&& ((1 : Int32) <<< ((2 : Int32) &&& 31)) = 0
    · rw [if_pos h2]
      exact far (fun c => absurd h2 ((al_2p al).2 c))
    · rw [if_neg h2]
      by_cases h7 : H < C - S
      · rw [if_pos h7]
        have h8 := ti_lt.1 h7
        rw [eCS] at h8
        exact far (fun _ => h8)
      · rw [if_neg h7]
        have h8 := mt ti_lt.2 h7
        rw [eCS] at h8
        have t2 := (al_2p al).1 h2
        refine fst_none 501 0 (fun i _ hi => ?_)
        rw [decide_eq_false_iff_not, key i (by omega)]
        intro c
        have := c.2.1 t2
        have := c.2.2
        omega
  · rw [if_neg h3]
    have n3 := hW0.1 h3
    refine fst_none 501 0 (fun i _ hi => ?_)
    rw [decide_eq_false_iff_not, key i (by omega)]
    intro c
    exact c.1 n3

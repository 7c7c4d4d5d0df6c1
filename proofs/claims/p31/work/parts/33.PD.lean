/-! questions about a quarrel -/
theorem gb0 : gb 0 = some 0 := by decide
theorem gb1 : gb 1 = some 1 := by decide
theorem in_e (a lo hi : Int32) : f_X4_in a lo hi = some (if a < lo ∨ hi < a then 0 else 1) := by
  unfold f_X4_in
  by_cases h1 : a < lo
  · rw [if_pos h1, if_pos (Or.inl h1)]
  · by_cases h2 : hi < a
    · rw [if_neg h1, if_pos h2, if_pos (Or.inr h2)]
    · rw [if_neg h1, if_neg h2, if_neg (fun c => c.elim h1 h2)]
theorem nI_m1 {n : Nat} (h : n < 2000) : (nI n - 1).toInt = (n : Int) - 1 := by
  have e : (nI n).toInt = (n : Int) := nI_toInt (by omega)
  have := ti_sub (x := nI n) (y := 1) (by rw [e, ti_1]; omega) (by rw [e, ti_1]; omega)
  rw [e, ti_1] at this
  exact this
theorem in_nI {a : Int32} {n : Nat} (h : n < 2000) : (∃ k, k < n ∧ a = nI k ∧ ¬ a < 0 ∧ ¬ nI n ≤ a ∧ f_X4_in a 0 (nI n - 1) = some 1) ∨ ((a < 0 ∨ nI n ≤ a) ∧ f_X4_in a 0 (nI n - 1) = some 0) := by
  rw [in_e]
  by_cases h0 : a < 0
  · exact Or.inr ⟨Or.inl h0, by rw [if_pos (Or.inl h0)]⟩
  · obtain ⟨j, hj, rfl⟩ := nI_of h0
    by_cases hk : j < n
    · refine Or.inl ⟨j, hk, rfl, h0, nI_ge hk (by omega), ?_⟩
      rw [if_neg]
      intro c
      rcases c with c | c
      · exact h0 c
      · rw [ti_lt, nI_m1 h, nI_toInt hj] at c; omega
    · refine Or.inr ⟨Or.inr (nI_le (by omega) hj), ?_⟩
      rw [if_pos]
      refine Or.inr ?_
      rw [ti_lt, nI_m1 h, nI_toInt hj]; omega
theorem wz_zero : ∀ al : Fin 32, ∀ a b c d e : Bool, decide (wz a b c d e (nI al.1) = 0) = !((a && al.1.testBit 0) || (b && al.1.testBit 1) || (c && al.1.testBit 2) || (d && al.1.testBit 3) || (e && al.1.testBit 4)) := by decide +kernel
theorem wz_three : ∀ al : Fin 32, ∀ a b c d e : Bool, decide (wz a b c d e (nI al.1) &&& 3 = 0) = !((a && al.1.testBit 0) || (b && al.1.testBit 1)) := by decide +kernel
theorem wz_fin : ∀ al : Fin 32, ∀ a b c d e : Bool, wz a b c d e (nI al.1) = nI ((((((if a then 1 else 0) ||| (if b then 2 else 0)) ||| (if c then 4 else 0)) ||| (if d then 8 else 0)) ||| (if e then 16 else 0)) &&& al.1) := by decide +kernel
theorem al_bit : ∀ al : Fin 32, ∀ w : Fin 5, decide (nI al.1 &&& ((1 : Int32) <<< (nI w.1 &&& 31)) = 0) = !al.1.testBit w.1 := by decide +kernel
theorem w_bit : ∀ al : Fin 32, ∀ w : Fin 5, decide (((nI al.1 >>> (nI w.1 &&& 31)) &&& 1) = 0) = !al.1.testBit w.1 := by decide +kernel
theorem w_bit1 : ∀ al : Fin 32, ∀ w : Fin 5, decide (((nI al.1 >>> (nI w.1 &&& 31)) &&& 1) = 1) = al.1.testBit w.1 := by decide +kernel
theorem wz_b1 : ∀ al : Fin 32, ∀ a b c d e : Bool, decide (wz a b c d e (nI al.1) &&& ((1 : Int32) <<< ((1 : Int32) &&& 31)) = 0) = !(b && al.1.testBit 1) := by decide +kernel
/-- the first hour at which a truth holds -/
def fst (w : Nat → Bool) : Nat → Nat → Int32
  | _, 0 => -6
  | k, d + 1 => if w k then nI k else fst w (k + 1) d
theorem fst_none {w : Nat → Bool} : ∀ (d k : Nat), (∀ i, k ≤ i → i < k + d → w i = false) → fst w k d = -6 := by
  intro d
  induction d with
  | zero => intro k _; rfl
  | succ d ih =>
    intro k h
    rw [fst, if_neg (by rw [h k (Nat.le_refl k) (by omega)]; decide)]
    exact ih (k + 1) (fun i h1 h2 => h i (by omega) (by omega))
theorem fst_some {w : Nat → Bool} {v : Nat} (hv : w v = true) : ∀ (d k : Nat), k ≤ v → v < k + d → (∀ i, k ≤ i → i < v → w i = false) → fst w k d = nI v := by
  intro d
  induction d with
  | zero => intro k h1 h2; omega
  | succ d ih =>
    intro k h1 h2 h
    by_cases c : k = v
    · subst c; rw [fst, if_pos hv]
    · rw [fst, if_neg (by rw [h k (Nat.le_refl k) (by omega)]; decide)]
      exact ih (k + 1) (by omega) (by omega) (fun i h3 h4 => h i (by omega) h4)
theorem opens_loop {u : Nat → Int32} {a : Int32} {W : Nat → Int32} (hW : ∀ i, i ≤ 500 → f_X4_waysOf u a (nI i) = some (W i)) : ∀ (d k n : Nat), k + d = 501 → d < n → f_X4_opensIn_L24 u a n (nI k) = some (fst (fun i => decide (¬ W i = 0)) k d) := by
  intro d
  induction d with
  | zero =>
    intro k n h1 h2
    obtain ⟨n, rfl⟩ : ∃ n', n = n' + 1 := ⟨n - 1, by omega⟩
    rw [f_X4_opensIn_L24, if_pos (by rw [show (500 : Int32) = nI 500 from rfl]; exact nI_lt (by omega) (by omega))]
    rfl
  | succ d ih =>
    intro k n h1 h2
    obtain ⟨n, rfl⟩ : ∃ n', n = n' + 1 := ⟨n - 1, by omega⟩
    rw [f_X4_opensIn_L24, if_neg (by rw [show (500 : Int32) = nI 500 from rfl]; exact nI_nlt (by omega) (by decide)), ob (hW k (by omega)), fst]
    by_cases c : W k = 0
    · rw [if_pos c, nI_1, ih (k + 1) n (by omega) (by omega), if_neg (by simp [c])]
    · rw [if_neg c, if_pos (by simp [c])]
theorem due_loop {u : Nat → Int32} {a : Int32} {W : Nat → Int32} (hW : ∀ i, i ≤ 500 → f_X4_reason u a (nI i) = some (W i)) : ∀ (d k n : Nat), k + d = 501 → d < n → f_X4_dueIn_L24 u a n (nI k) = some (fst (fun i => decide (W i = 0)) k d) := by
  intro d
  induction d with
  | zero =>
    intro k n h1 h2
    obtain ⟨n, rfl⟩ : ∃ n', n = n' + 1 := ⟨n - 1, by omega⟩
    rw [f_X4_dueIn_L24, if_pos (by rw [show (500 : Int32) = nI 500 from rfl]; exact nI_lt (by omega) (by omega))]
    rfl
  | succ d ih =>
    intro k n h1 h2
    obtain ⟨n, rfl⟩ : ∃ n', n = n' + 1 := ⟨n - 1, by omega⟩
    rw [f_X4_dueIn_L24, if_neg (by rw [show (500 : Int32) = nI 500 from rfl]; exact nI_nlt (by omega) (by decide)), ob (hW k (by omega)), fst]
    by_cases c : W k = 0
    · rw [if_pos c, if_pos (by simp [c])]
    · rw [if_neg c, nI_1, ih (k + 1) n (by omega) (by omega), if_neg (by simp [c])]
section SD
variable {B : Nat} {t : TT} {u : Nat → Int32} {np nq : Nat}
theorem hasQ (hR : RT B t u) (hN : UN u np nq) (a : Int32) : (∃ k, k < nq ∧ a = nI k ∧ f_X2_hasQuarrel t a = some 1 ∧ f_X4_isQuarrel u a = some 1) ∨ (f_X2_hasQuarrel t a = some 0 ∧ f_X4_isQuarrel u a = some 0) := by
  unfold f_X2_hasQuarrel f_X4_isQuarrel
  rw [ob ms47, hR.2.2.2.1, hN.2.2.2.1]
  rcases in_nI (a := a) (n := nq) (by have := hN.2.1; omega) with ⟨k, hk, ha, h1, h2, h3⟩ | ⟨h1, h3⟩
  · exact Or.inl ⟨k, hk, ha, by rw [if_neg h1, if_neg h2], by rw [ob h3, ob gb1]⟩
  · refine Or.inr ⟨?_, by rw [ob h3, ob gb0]⟩
    by_cases c : a < 0
    · rw [if_pos c]
    · rw [if_neg c, if_pos (h1.resolve_left c)]
theorem hasP (hR : RT B t u) (hN : UN u np nq) (a : Int32) : (∃ k, k < np ∧ a = nI k ∧ f_X2_hasPerson t a = some 1 ∧ f_X4_isPerson u a = some 1) ∨ (f_X2_hasPerson t a = some 0 ∧ f_X4_isPerson u a = some 0) := by
  unfold f_X2_hasPerson f_X4_isPerson
  rw [ob ms5, hR.2.2.1, hN.2.2.1]
  rcases in_nI (a := a) (n := np) (by have := hN.1; omega) with ⟨k, hk, ha, h1, h2, h3⟩ | ⟨h1, h3⟩
  · exact Or.inl ⟨k, hk, ha, by rw [if_neg h1, if_neg h2], by rw [ob h3, ob gb1]⟩
  · refine Or.inr ⟨?_, by rw [ob h3, ob gb0]⟩
    by_cases c : a < 0
    · rw [if_pos c]
    · rw [if_neg c, if_pos (h1.resolve_left c)]
/-- the ways of an open quarrel now and later -/
def OW (t : TT) (u : Nat → Int32) (np k : Nat) : Prop := ∃ (i j : Nat) (a b : Bool) (al : Fin 32) (O1 O2 L : Int32), i < np ∧ j < np ∧ i ≠ j ∧ qv u k 0 = nI i ∧ qv u k 1 = nI j ∧ (0 ≤ O1.toInt ∧ O1.toInt ≤ 10199) ∧ (0 ≤ O2.toInt ∧ O2.toInt ≤ 10199) ∧ (-1 ≤ L.toInt ∧ L.toInt ≤ 10400) ∧
      f_X2_oathLeft t (nI i) = some O1 ∧ f_X2_oathLeft t (nI j) = some O2 ∧ f_X2_peaceLeft t (nI i) (nI j) = some L ∧
      (b = true → ∃ x y, x < np ∧ y < np ∧ x ≠ y ∧ pv u i 2 = nI x ∧ pv u j 2 = nI y) ∧ u 46 = nI al.1 ∧
      f_X2_waysOf t (nI k) = some (wz a b (decide (¬ u 4 - qv u k 3 < u 0 * qv u k 2)) (decide (0 < O1.toInt ∨ 0 < O2.toInt)) (decide (0 ≤ L.toInt)) (nI al.1)) ∧
      ∀ later : Int32, 0 ≤ later.toInt → later.toInt ≤ 500 →
        f_X4_waysOf u (nI k) later = some (wz a b (decide (¬ u 4 - qv u k 3 + later < u 0 * qv u k 2)) (decide (later.toInt < O1.toInt ∨ later.toInt < O2.toInt)) (decide (later.toInt ≤ L.toInt)) (nI al.1))
theorem ow_e (hR : RT B t u) (hS : US u) (hN : UN u np nq) {k : Nat} (hk : k < nq) (h0 : qv u k 4 = 0) : OW t u np k := by
  have hq := hN.2.1
  have hk12 : k < 12 := by omega
  obtain ⟨⟨i, j, hi, hj, hij, e0, e1⟩, _⟩ := hN.2.2.2.2.2 k hk
  obtain ⟨a, b, O1, O2, L, b1, b2, b3, x1, x2, x3, x4, x5, x6⟩ := ways_e hR hS hN hi hj (qv u k 2) (u 4 - qv u k 3)
  obtain ⟨al, ea⟩ := decide_u46 hS
  refine ⟨i, j, a, b, al, O1, O2, L, hi, hj, hij, e0, e1, b1, b2, b3, x1, x2, x3, x4, ea, ?_, ?_⟩
  · unfold f_X2_waysOf
    rw [ob (isOpen_e hR hk12), if_pos h0, if_neg (by decide), ob (rq0 hR hk12), ob (rq1 hR hk12), ob (rq2 hR hk12), ob (hoursSince_e hR hk12), e0, e1, ob x5, ea]
  · intro later h3 h5
    unfold f_X4_waysOf
    rw [ob (mq4 hk12), if_pos h0, ob (mq0 hk12), ob (mq1 hk12), ob (mq2 hk12), ob (since_e hk12), e0, e1, ob (x6 (nI k) later (fun k' hk' c => by
      have := (nI_eq (by omega) (by omega)).1 c
      subst this
      rw [h0]; decide) h3 h5), ea]
theorem not_open (hR : RT B t u) (hN : UN u np nq) {k : Nat} (hk : k < nq) (h0 : ¬ qv u k 4 = 0) : f_X2_waysOf t (nI k) = some 0 ∧ ∀ later, f_X4_waysOf u (nI k) later = some 0 := by
  have hq := hN.2.1
  have hk12 : k < 12 := by omega
  refine ⟨?_, fun later => ?_⟩
  · unfold f_X2_waysOf
    rw [ob (isOpen_e hR hk12), if_neg h0, if_pos rfl]
  · unfold f_X4_waysOf
    rw [ob (mq4 hk12), if_neg h0]
theorem waysOf_e (hR : RT B t u) (hS : US u) (hN : UN u np nq) {k : Nat} (hk : k < nq) : ∃ w : Fin 32, f_X2_waysOf t (nI k) = some (nI w.1) ∧ f_X4_waysOf u (nI k) 0 = some (nI w.1) := by
  by_cases h0 : qv u k 4 = 0
  · obtain ⟨i, j, a, b, al, O1, O2, L, hi, hj, hij, e0, e1, b1, b2, b3, x1, x2, x3, x4, ea, x5, x6⟩ := ow_e hR hS hN hk h0
    have h6 := x6 0 (by decide) (by decide)
    rw [ti_0, Int32.add_zero, wz_fin] at h6
    rw [wz_fin] at x5
    exact ⟨⟨_, Nat.lt_of_le_of_lt Nat.and_le_right al.2⟩, x5, h6⟩
  · obtain ⟨h1, h2⟩ := not_open hR hN hk h0
    exact ⟨0, h1, h2 0⟩
theorem reason_e (hR : RT B t u) (hS : US u) (hN : UN u np nq) {k : Nat} (hk : k < nq) : ∃ w v, f_X2_waysOf t (nI k) = some w ∧ f_X2_whyNotDue t (nI k) w = some v ∧ f_X4_reason u (nI k) 0 = some v := by
  have hq := hN.2.1
  have hk12 : k < 12 := by omega
  obtain ⟨w, h1, h2⟩ := waysOf_e hR hS hN hk
  refine ⟨nI w.1, if qv u k 4 = 0 then (if nI w.1 = 0 then (if u 1 ≤ u 4 - qv u k 3 then 0 else 3) else 2) else 1, h1, ?_, ?_⟩
  · unfold f_X2_whyNotDue
    rw [ob (isOpen_e hR hk12)]
    by_cases c : qv u k 4 = 0
    · rw [if_pos c, if_neg (by decide), if_pos c]
      by_cases c2 : nI w.1 = 0
      · rw [if_pos c2, if_pos c2, ob (hoursSince_e hR hk12), ob (rs1 hR)]; split <;> rfl
      · rw [if_neg c2, if_neg c2]
    · rw [if_neg c, if_pos rfl, if_neg c]
  · unfold f_X4_reason
    rw [ob (mq4 hk12)]
    by_cases c : qv u k 4 = 0
    · rw [if_pos c, ob h2, if_pos c]
      by_cases c2 : nI w.1 = 0
      · rw [if_pos c2, if_pos c2, ob (since_e hk12), ob ms1, Int32.add_zero]; split <;> rfl
      · rw [if_neg c2, if_neg c2]
    · rw [if_neg c, if_neg c]
end SD

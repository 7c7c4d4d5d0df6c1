/-! pressing, the record -/
theorem n10 : ¬ (1 : Int32) = 0 := by decide
theorem n20 : ¬ (2 : Int32) = 0 := by decide
theorem n21 : ¬ (2 : Int32) = 1 := by decide
theorem xor_nn {a d : Nat} (ha : a < 2 ^ 31) (hd : d < 2 ^ 31) : (0 : Int32) ≤ nI a ^^^ nI d := by
  have h : nI a ^^^ nI d = nI (a ^^^ d) := Int32.toBitVec_inj.1 (BitVec.ofNat_xor (w := 32) (x := a) (y := d)).symm
  rw [h]
  exact nI_pos' (Nat.xor_lt_two_pow ha hd)
theorem fm_nI {a d : Nat} (ha : a < 2 ^ 31) (h0 : 0 < d) (hd : d < 2 ^ 31) : f_J9_floorMod_7cf53 (nI a) (nI d) = some (nI (a % d)) := by
  unfold f_J9_floorMod_7cf53
  rw [if_neg (nI_ne0 h0 hd), if_pos (xor_nn ha hd), pk_rem ha h0 hd]
theorem fm12 {a : Nat} (ha : a < 2 ^ 31) : f_J9_floorMod_7cf53 (nI a) 12 = some (nI (a % 12)) := fm_nI (d := 12) ha (by decide) (by decide)
theorem fm7 {a : Nat} (ha : a < 2 ^ 31) : f_J9_floorMod_7cf53 (nI a) 7 = some (nI (a % 7)) := fm_nI (d := 7) ha (by decide) (by decide)
theorem mul_b2 {x y : Int} (h1 : -10000 ≤ x) (h2 : x ≤ 10000) (h3 : 1 ≤ y) (h4 : y ≤ 9) : -90000 ≤ x * y ∧ x * y ≤ 90000 := by
  have h : y = 1 ∨ y = 2 ∨ y = 3 ∨ y = 4 ∨ y = 5 ∨ y = 6 ∨ y = 7 ∨ y = 8 ∨ y = 9 := by omega
  rcases h with h | h | h | h | h | h | h | h | h <;> subst h <;> omega
abbrev pr (u : Nat → Int32) (k : Nat) : Int32 := (u 4 - qv u k 3 + 1) * qv u k 2
section SG
variable {B : Nat} {t : TT} {u : Nat → Int32} {np nq : Nat}
theorem sc_b (hS : US u) (hN : UN u np nq) {k : Nat} (hk : k < nq) : (u 4 - qv u k 3).toInt = (u 4).toInt - (qv u k 3).toInt ∧ (-9999 ≤ (u 4 - qv u k 3).toInt ∧ (u 4 - qv u k 3).toInt ≤ 9999) := by
  have h3 := (hN.2.2.2.2.2 k hk).2.2.1
  have h4 := hS.2.2.2.2.1
  have e : (u 4 - qv u k 3).toInt = (u 4).toInt - (qv u k 3).toInt := ti_sub (by omega) (by omega)
  exact ⟨e, by omega⟩
theorem cr_b (hS : US u) (hN : UN u np nq) {k : Nat} (hk : k < nq) : 0 ≤ (u 0 * qv u k 2).toInt ∧ (u 0 * qv u k 2).toInt ≤ 432 := by
  have h2 := (hN.2.2.2.2.2 k hk).2.1
  have h0 := hS.1
  have hb := mul_b (x := (u 0).toInt) (y := (qv u k 2).toInt) (by omega) (by omega) (by omega) (by omega)
  rw [ti_mul (by omega) (by omega)]
  exact hb
theorem pr_b (hS : US u) (hN : UN u np nq) {k : Nat} (hk : k < nq) : -90000 ≤ (pr u k).toInt ∧ (pr u k).toInt ≤ 90000 := by
  have h2 := (hN.2.2.2.2.2 k hk).2.1
  have hs := sc_b hS hN hk
  have e : (u 4 - qv u k 3 + 1).toInt = (u 4 - qv u k 3).toInt + 1 := by
    have := ti_add (x := u 4 - qv u k 3) (y := 1) (by rw [ti_1]; omega) (by rw [ti_1]; omega)
    rw [ti_1] at this
    exact this
  have hb := mul_b2 (x := (u 4 - qv u k 3 + 1).toInt) (y := (qv u k 2).toInt) (by omega) (by omega) (by omega) (by omega)
  show -90000 ≤ ((u 4 - qv u k 3 + 1) * qv u k 2).toInt ∧ ((u 4 - qv u k 3 + 1) * qv u k 2).toInt ≤ 90000
  rw [ti_mul (by omega) (by omega)]
  exact hb
theorem pressureOf_e (hR : RT B t u) {k : Nat} (hk : k < 12) : f_X2_pressureOf t (nI k) = some (pr u k) := by
  unfold f_X2_pressureOf
  rw [ob (hoursSince_e hR hk), ob (rq2 hR hk)]
theorem press_e {k : Nat} (hk : k < 12) : f_X4_press u (nI k) = some (pr u k) := by
  unfold f_X4_press
  rw [ob (since_e hk), ob (mq2 hk)]
abbrev aw (u : Nat → Int32) (k : Nat) : Nat → Bool := fun i => decide (qv u i 4 = 0 ∧ (pr u k < pr u i ∨ pr u i = pr u k ∧ i < k))
theorem before_e (hR : RT B t u) (hS : US u) (hN : UN u np nq) {k : Nat} (hk : k < nq) : f_X2_quarrelsBefore t (nI k) = some (fd (aw u k) gC 0 nq 0) := by
  unfold f_X2_quarrelsBefore
  have hq := hN.2.1
  rw [ob (fd_loop0 (F := f_X2_quarrelsBefore_L4 t (nI k)) (w := aw u k) (g := gC) hq ?_ ?_ 0)]
  · intro n acc i h1 h2
    rw [f_X2_quarrelsBefore_L4, if_pos ((nq_le hR hN (by omega)).2 h1)]
  · intro n acc i h1
    rw [f_X2_quarrelsBefore_L4, if_neg (fun c => absurd ((nq_le hR hN (by omega)).1 c) (by omega)), ob (pressureOf_e hR (by omega)), ob (pressureOf_e hR (by omega)), ob (isOpen_e hR (by omega)), nI_1]
    have bi := pr_b hS hN h1
    have bk := pr_b hS hN hk
    have es : (pr u i - pr u k).toInt = (pr u i).toInt - (pr u k).toInt := ti_sub (by omega) (by omega)
    have i1 : (0 < pr u i - pr u k) ↔ pr u k < pr u i := by rw [ti_lt, ti_lt, es, ti_0]; omega
    have i2 : (pr u i - pr u k = 0) ↔ pr u i = pr u k := by rw [ti_eq, ti_eq, es, ti_0]; omega
    by_cases c : qv u i 4 = 0
    · rw [if_pos c, if_neg (by decide)]
      by_cases c1 : pr u k < pr u i
      · rw [if_pos (i1.2 c1), if_pos (by simp only [decide_eq_true_eq]; exact ⟨c, Or.inl c1⟩)]
      · rw [if_neg (fun d => c1 (i1.1 d))]
        by_cases c2 : pr u i = pr u k
        · rw [if_pos (i2.2 c2)]
          by_cases c3 : i < k
          · rw [if_neg (nI_ge c3 (by omega)), if_pos (by simp only [decide_eq_true_eq]; exact ⟨c, Or.inr ⟨c2, c3⟩⟩)]
          · rw [if_pos (nI_le (by omega) (by omega)), if_neg (by simp only [decide_eq_true_eq]; exact fun d => d.2.elim c1 (fun d2 => c3 d2.2))]
        · rw [if_neg (fun d => c2 (i2.1 d)), if_neg (by simp only [decide_eq_true_eq]; exact fun d => d.2.elim c1 (fun d2 => c2 d2.1))]
    · rw [if_neg c, if_pos rfl, if_neg (by simp only [decide_eq_true_eq]; exact fun d => c d.1)]
theorem ahead_e (hS : US u) (hN : UN u np nq) (y1 : Int32) {k : Nat} (hk : k < nq) : f_X4_pressing_L18 u y1 (nI k) 2000 0 0 = some (fd (aw u k) gC 0 nq 0) := by
  have hq := hN.2.1
  refine fd_loop0 (F := f_X4_pressing_L18 u y1 (nI k)) (w := aw u k) (g := gC) hq ?_ ?_ 0
  · intro n acc i h1 h2
    rw [f_X4_pressing_L18, ob ms47, if_pos ((mq_le hN (by omega)).2 h1)]
  · intro n acc i h1
    rw [f_X4_pressing_L18, ob ms47, if_neg (fun c => absurd ((mq_le hN (by omega)).1 c) (by omega)), ob (press_e (by omega)), ob (press_e (by omega)), nI_1]
    have hv : (if pr u k < pr u i then some (1 : Int32) else ((f_X4_press u (nI i)).bind fun x18 => ((f_X4_press u (nI k)).bind fun x20 => (if x18 = x20 then (if nI k ≤ nI i then some (0 : Int32) else some (1 : Int32)) else some (0 : Int32))))) = some (if pr u k < pr u i ∨ pr u i = pr u k ∧ i < k then 1 else 0) := by
      by_cases c1 : pr u k < pr u i
      · rw [if_pos c1, if_pos (Or.inl c1)]
      · rw [if_neg c1, ob (press_e (by omega)), ob (press_e (by omega))]
        by_cases c2 : pr u i = pr u k
        · rw [if_pos c2]
          by_cases c3 : i < k
          · rw [if_neg (nI_ge c3 (by omega)), if_pos (Or.inr ⟨c2, c3⟩)]
          · rw [if_pos (nI_le (by omega) (by omega)), if_neg (fun d => d.elim c1 (fun d2 => c3 d2.2))]
        · rw [if_neg c2, if_neg (fun d => d.elim c1 (fun d2 => c2 d2.1))]
    rw [ob hv, ob (mq4 (by omega))]
    by_cases c : qv u i 4 = 0
    · rw [if_pos c]
      by_cases c1 : pr u k < pr u i ∨ pr u i = pr u k ∧ i < k
      · rw [if_pos c1, if_neg (by decide), ob rfl, if_pos (by simp only [decide_eq_true_eq]; exact ⟨c, c1⟩)]
      · rw [if_neg c1, if_pos rfl, ob rfl, i_add0, if_neg (by simp only [decide_eq_true_eq]; exact fun d => c1 d.2)]
    · rw [if_neg c, ob rfl, i_add0, if_neg (by simp only [decide_eq_true_eq]; exact fun d => c d.1)]
theorem pressing_loop (hR : RT B t u) (hS : US u) (hN : UN u np nq) (y1 : Int32) : ∀ (d k n : Nat), k + d = nq → d < n → ∃ r, f_X2_quarrelThatPresses_L2 t y1 n (nI k) = some r ∧ f_X4_pressing_L2 u y1 n (nI k) = some r := by
  have hq := hN.2.1
  intro d
  induction d with
  | zero =>
    intro k n h1 h2
    obtain ⟨n, rfl⟩ : ∃ n', n = n' + 1 := ⟨n - 1, by omega⟩
    refine ⟨-1, ?_, ?_⟩
    · rw [f_X2_quarrelThatPresses_L2, if_pos ((nq_le hR hN (by omega)).2 (by omega))]
    · rw [f_X4_pressing_L2, ob ms47, if_pos ((mq_le hN (by omega)).2 (by omega))]
  | succ d ih =>
    intro k n h1 h2
    obtain ⟨n, rfl⟩ : ∃ n', n = n' + 1 := ⟨n - 1, by omega⟩
    obtain ⟨r, r1, r2⟩ := ih (k + 1) n (by omega) (by omega)
    have a1 : f_X2_quarrelThatPresses_L2 t y1 (n + 1) (nI k) = (if qv u k 4 = 0 then (if fd (aw u k) gC 0 nq 0 = y1 then some (nI k) else f_X2_quarrelThatPresses_L2 t y1 n (nI (k + 1))) else f_X2_quarrelThatPresses_L2 t y1 n (nI (k + 1))) := by
      rw [f_X2_quarrelThatPresses_L2, if_neg (fun c => absurd ((nq_le hR hN (by omega)).1 c) (by omega)), ob (isOpen_e hR (by omega)), nI_1]
      by_cases c : qv u k 4 = 0
      · rw [if_pos c, if_neg (by decide), ob (before_e hR hS hN (by omega)), if_pos c]
      · rw [if_neg c, if_pos rfl, if_neg c]
    have a2 : f_X4_pressing_L2 u y1 (n + 1) (nI k) = (if qv u k 4 = 0 then (if fd (aw u k) gC 0 nq 0 = y1 then some (nI k) else f_X4_pressing_L2 u y1 n (nI (k + 1))) else f_X4_pressing_L2 u y1 n (nI (k + 1))) := by
      rw [f_X4_pressing_L2, ob ms47, if_neg (fun c => absurd ((mq_le hN (by omega)).1 c) (by omega)), ob (ahead_e hS hN y1 (by omega)), ob (mq4 (by omega)), nI_1]
    rw [a1, a2, r1, r2]
    by_cases c : qv u k 4 = 0
    · by_cases c1 : fd (aw u k) gC 0 nq 0 = y1
      · exact ⟨nI k, by rw [if_pos c, if_pos c1], by rw [if_pos c, if_pos c1]⟩
      · exact ⟨r, by rw [if_pos c, if_neg c1], by rw [if_pos c, if_neg c1]⟩
    · exact ⟨r, by rw [if_neg c], by rw [if_neg c]⟩
theorem st_pressing (hR : RT B t u) (hS : US u) (hN : UN u np nq) (hh : HH) (pp : PP) (a : Int32) : ∃ r, f_X3_pressing t hh pp a = some r ∧ f_X4_pressing u a = some r := by
  obtain ⟨r, r1, r2⟩ := pressing_loop hR hS hN a nq 0 2000 (by omega) (by have := hN.2.1; omega)
  rw [nI_0] at r1 r2
  refine ⟨r, ?_, r2⟩
  unfold f_X3_pressing f_X2_quarrelThatPresses
  rw [ob r1]
theorem st_record (hB : B < 1000000) (hR : RT B t u) (hh : HH) (pp : PP) (a a' : Int32) : ∃ r, f_X3_record t hh pp a a' = some r ∧ f_X4_record u a a' = some r := by
  obtain ⟨ne, e1, e2, e3, e4⟩ := hR.2.2.2.2.2
  unfold f_X3_record f_X2_tellEvent f_X4_record
  have hm : (if (12 : Int32) < nI ne then (12 : Int32) else nI ne) = nI (min ne 12) := by
    rw [show (12 : Int32) = nI 12 from rfl]
    by_cases c : 12 < ne
    · rw [if_pos (nI_lt c (by omega)), show min ne 12 = 12 from by omega]
    · rw [if_neg (nI_nlt (by omega) (by decide)), show min ne 12 = ne from by omega]
  rw [e2, hm, ob ms144, e3]
  rcases in_nI (a := a) (n := min ne 12) (by omega) with ⟨r, hr, rfl, h1, h2, h3⟩ | ⟨h1, h3⟩
  · have ep : nI ne - 1 - nI r = nI (ne - 1 - r) := by
      rw [show (1 : Int32) = nI 1 from rfl, pk_sub (by omega), pk_sub (by omega)]
    rw [if_neg h1, if_pos (nI_lt hr (by omega)), ep, ob (fm12 (by omega)), ob h3, if_neg n10, in_e]
    have i1 : ∀ w : Nat, w < 3 → f_X2_read t (nI (140 + 12 * w)) (nI ((ne - 1 - r) % 12)) = some (u (145 + 3 * r + w)) := by
      intro w hw
      have : (ne - 1 - r) % 12 < 12 := Nat.mod_lt _ (by decide)
      rw [x2_rd (r := 140 + 12 * w) rfl (by omega), e4 r w hr hw]
    have i2 : ∀ w : Nat, w < 3 → rd u 181 (((145 : Int32) + ((3 : Int32) * nI r)) + nI w) = some (u (145 + 3 * r + w)) := by
      intro w hw
      refine x4_g _ ?_ (by omega)
      rw [show (145 : Int32) = nI 145 from rfl, show (3 : Int32) = nI 3 from rfl, nI_mul, nI_add, nI_add]
    have k0 : f_X2_read t 140 (nI ((ne - 1 - r) % 12)) = some (u (145 + 3 * r)) := i1 0 (by decide)
    have k1 : f_X2_read t 152 (nI ((ne - 1 - r) % 12)) = some (u (145 + 3 * r + 1)) := i1 1 (by decide)
    have k2 : f_X2_read t 164 (nI ((ne - 1 - r) % 12)) = some (u (145 + 3 * r + 2)) := i1 2 (by decide)
    have m0 : rd u 181 (((145 : Int32) + ((3 : Int32) * nI r)) + 0) = some (u (145 + 3 * r)) := i2 0 (by decide)
    have m1 : rd u 181 (((145 : Int32) + ((3 : Int32) * nI r)) + 1) = some (u (145 + 3 * r + 1)) := i2 1 (by decide)
    have m2 : rd u 181 (((145 : Int32) + ((3 : Int32) * nI r)) + 2) = some (u (145 + 3 * r + 2)) := i2 2 (by decide)
    by_cases d0 : a' = 0
    · subst d0
      refine ⟨_, by rw [if_pos rfl, ob k0]; rfl, ?_⟩
      rw [if_neg (by decide), ob rfl, if_neg n10, ob m0]
    by_cases d1 : a' = 1
    · subst d1
      refine ⟨_, by rw [if_neg n10, if_pos rfl, ob k1]; rfl, ?_⟩
      rw [if_neg (by decide), ob rfl, if_neg n10, ob m1]
    by_cases d2 : a' = 2
    · subst d2
      refine ⟨_, by rw [if_neg n20, if_neg n21, if_pos rfl, ob k2]; rfl, ?_⟩
      rw [if_neg (by decide), ob rfl, if_neg n10, ob m2]
    refine ⟨-2, by rw [if_neg d0, if_neg d1, if_neg d2]; rfl, ?_⟩
    rw [if_pos, ob rfl, if_pos rfl]
    have j0 := mt ti_eq.2 d0
    have j1 := mt ti_eq.2 d1
    have j2 := mt ti_eq.2 d2
    rw [ti_0] at j0
    rw [ti_1] at j1
    rw [ti_2] at j2
    rw [ti_lt, ti_lt, ti_0, ti_2]
    omega
  · refine ⟨-1, ?_, by rw [ob h3, if_pos rfl]⟩
    by_cases c : a < 0
    · rw [if_pos c]; rfl
    · rw [if_neg c, if_neg (fun d => by
        have h4 := ti_le.1 (h1.resolve_left c)
        have h5 := ti_lt.1 d
        omega)]
      rfl
end SG

/-! all persons are so; how quarrels press; insults by rank -/
abbrev bf (u : Nat → Int32) (nq k : Nat) : Nat := cnt (aw u k) nq
/-- q goes before k -/
def gb4 (u : Nat → Int32) (q k : Nat) : Prop := (pr u k).toInt < (pr u q).toInt ∨ (pr u q).toInt = (pr u k).toInt ∧ q < k
theorem aw_iff {u : Nat → Int32} {k q : Nat} : aw u k q = true ↔ (qv u q 4 = 0 ∧ gb4 u q k) := by
  show decide (qv u q 4 = 0 ∧ (pr u k < pr u q ∨ pr u q = pr u k ∧ q < k)) = true ↔ _
  rw [decide_eq_true_eq, ti_lt, ti_eq (x := pr u q)]
  exact Iff.rfl
theorem gb4_tri {u : Nat → Int32} (q k : Nat) : gb4 u q k ∨ q = k ∨ gb4 u k q := by unfold gb4; omega
theorem gb4_irr {u : Nat → Int32} (q : Nat) : ¬ gb4 u q q := by unfold gb4; omega
theorem gb4_tr {u : Nat → Int32} {a b c : Nat} (h1 : gb4 u a b) (h2 : gb4 u b c) : gb4 u a c := by unfold gb4 at *; omega
theorem bf_lt {u : Nat → Int32} {nq q k : Nat} (hq : q < nq) (h0 : qv u q 4 = 0) (h : gb4 u q k) : bf u nq q < bf u nq k := by
  refine cnt_lt (q := q) nq (fun i _ hi => ?_) hq (aw_iff.2 ⟨h0, h⟩) (fun c => gb4_irr q (aw_iff.1 c).2)
  have h1 := aw_iff.1 hi
  exact aw_iff.2 ⟨h1.1, gb4_tr h1.2 h⟩
theorem bf_iff {u : Nat → Int32} {nq q k : Nat} (hq : q < nq) (hk : k < nq) (h0 : qv u q 4 = 0) (h1 : qv u k 4 = 0) : gb4 u q k ↔ bf u nq q < bf u nq k := by
  constructor
  · exact bf_lt hq h0
  · intro h
    rcases gb4_tri (u := u) q k with c | c | c
    · exact c
    · subst c; omega
    · have := bf_lt hk h1 c; omega
theorem bf_inj {u : Nat → Int32} {nq q k : Nat} (hq : q < nq) (hk : k < nq) (h0 : qv u q 4 = 0) (h1 : qv u k 4 = 0) (h : bf u nq q = bf u nq k) : q = k := by
  rcases gb4_tri (u := u) q k with c | c | c
  · have := bf_lt hq h0 c; omega
  · exact c
  · have := bf_lt hk h1 c; omega
abbrev wo (u : Nat → Int32) : Nat → Bool := fun k => decide (qv u k 4 = 0)
abbrev wr4 (u : Nat → Int32) (nq r : Nat) : Nat → Bool := fun k => decide (qv u k 4 = 0 ∧ bf u nq k < r)
theorem bf_top {u : Nat → Int32} {nq k : Nat} (hk : k < nq) (h0 : qv u k 4 = 0) : bf u nq k < cnt (wo u) nq :=
  cnt_lt (q := k) nq (fun i _ hi => decide_eq_true (aw_iff.1 hi).1) hk (decide_eq_true h0) (fun c => gb4_irr k (aw_iff.1 c).2)
/-- the least of some numbers -/
theorem least {P : Nat → Prop} {f : Nat → Nat} : ∀ (v k : Nat), P k → f k ≤ v → ∃ k', P k' ∧ ∀ i, P i → f k' ≤ f i := by
  intro v
  induction v with
  | zero => intro k hk h; exact ⟨k, hk, fun i _ => by omega⟩
  | succ v ih =>
    intro k hk h
    by_cases c : ∃ i, P i ∧ f i < f k
    · obtain ⟨i, h1, h2⟩ := c
      exact ih i h1 (by omega)
    · exact ⟨k, hk, fun i hi => Nat.le_of_not_lt (fun d => c ⟨i, hi, d⟩)⟩
theorem bf_all {u : Nat → Int32} {nq : Nat} : ∀ r, r ≤ cnt (wo u) nq → cnt (wr4 u nq r) nq = r ∧ (r < cnt (wo u) nq → ∃ q, q < nq ∧ qv u q 4 = 0 ∧ bf u nq q = r) := by
  have ex : ∀ r, cnt (wr4 u nq r) nq = r → r < cnt (wo u) nq → ∃ q, q < nq ∧ qv u q 4 = 0 ∧ bf u nq q = r := by
    intro r h1 h2
    obtain ⟨k, k1, k2, k3⟩ := cnt_ex (w := wr4 u nq r) (w' := wo u) nq (by omega)
    have k2' : qv u k 4 = 0 := of_decide_eq_true k2
    have k3' : ¬ bf u nq k < r := fun c => k3 (decide_eq_true ⟨k2', c⟩)
    obtain ⟨q, ⟨q1, q2, q3⟩, q4⟩ := least (P := fun i => i < nq ∧ qv u i 4 = 0 ∧ ¬ bf u nq i < r) (f := fun i => bf u nq i) (bf u nq k) k ⟨k1, k2', k3'⟩ (Nat.le_refl _)
    refine ⟨q, q1, q2, ?_⟩
    have : bf u nq q = cnt (wr4 u nq r) nq := cnt_ext nq (fun i hi => by
      rw [aw_iff, decide_eq_true_eq]
      constructor
      · rintro ⟨a1, a2⟩
        refine ⟨a1, Classical.byContradiction (fun c => ?_)⟩
        have := q4 i ⟨hi, a1, c⟩
        have := (bf_iff hi q1 a1 q2).1 a2
        omega
      · rintro ⟨a1, a2⟩
        exact ⟨a1, (bf_iff hi q1 a1 q2).2 (by omega)⟩)
    rw [this, h1]
  intro r
  induction r with
  | zero =>
    intro h
    have h0 : cnt (wr4 u nq 0) nq = 0 := cnt_none nq (fun k _ c => Nat.not_lt_zero _ (of_decide_eq_true c).2)
    exact ⟨h0, ex 0 h0⟩
  | succ r ih =>
    intro h
    obtain ⟨i1, i2⟩ := ih (by omega)
    obtain ⟨q, q1, q2, q3⟩ := i2 (by omega)
    have h1 : cnt (wr4 u nq (r + 1)) nq = r + 1 := by
      rw [cnt_add1 (w := wr4 u nq r) (q := q) nq q1 (fun k hk => ?_) (fun c => by have := (of_decide_eq_true c).2; omega), i1]
      rw [decide_eq_true_eq, decide_eq_true_eq]
      constructor
      · rintro ⟨a1, a2⟩
        by_cases c : bf u nq k < r
        · exact Or.inl ⟨a1, c⟩
        · exact Or.inr (bf_inj hk q1 a1 q2 (by omega))
      · rintro (⟨a1, a2⟩ | a)
        · exact ⟨a1, by omega⟩
        · subst a; exact ⟨q2, by omega⟩
    exact ⟨h1, ex (r + 1) h1⟩
section TC
variable {B : Nat} {t : TT} {u : Nat → Int32} {np nq : Nat}
theorem press_loop (hR : RT B t u) (hS : US u) (hN : UN u np nq) {r : Nat} (hr : r ≤ 12) : ∀ (d k n : Nat), k + d = nq → d < n → (∀ i, i < k → qv u i 4 = 0 → bf u nq i ≠ r) →
    (∃ q, q < nq ∧ qv u q 4 = 0 ∧ bf u nq q = r ∧ f_X2_quarrelThatPresses_L2 t (nI r) n (nI k) = some (nI q)) ∨ ((∀ i, i < nq → qv u i 4 = 0 → bf u nq i ≠ r) ∧ f_X2_quarrelThatPresses_L2 t (nI r) n (nI k) = some (-1)) := by
  have hq := hN.2.1
  intro d
  induction d with
  | zero =>
    intro k n hk hn hno
    obtain ⟨n, rfl⟩ : ∃ n', n = n' + 1 := ⟨n - 1, by omega⟩
    obtain rfl : k = nq := by omega
    exact Or.inr ⟨hno, by rw [f_X2_quarrelThatPresses_L2, if_pos ((nq_le hR hN (by omega)).2 (Nat.le_refl _))]⟩
  | succ d ih =>
    intro k n hk hn hno
    obtain ⟨n, rfl⟩ : ∃ n', n = n' + 1 := ⟨n - 1, by omega⟩
    rw [f_X2_quarrelThatPresses_L2, if_neg (fun c => absurd ((nq_le hR hN (by omega)).1 c) (by omega)), ob (isOpen_e hR (by omega)), nI_1]
    by_cases c : qv u k 4 = 0
    · have hb : bf u nq k ≤ nq := cnt_le _ _
      rw [if_pos c, if_neg n10, ob (before_e hR hS hN (show k < nq by omega)), fd_cnt]
      by_cases c2 : nI (cnt (aw u k) nq) = nI r
      · exact Or.inl ⟨k, by omega, c, nI_inj (by omega) (by omega) c2, by rw [if_pos c2]⟩
      · rw [if_neg c2]
        refine ih (k + 1) n (by omega) (by omega) (fun i hi h0 => ?_)
        by_cases e : i = k
        · subst e; exact fun d => c2 (congrArg nI d)
        · exact hno i (by omega) h0
    · rw [if_neg c, if_pos rfl]
      refine ih (k + 1) n (by omega) (by omega) (fun i hi h0 => ?_)
      by_cases e : i = k
      · subst e; exact absurd h0 c
      · exact hno i (by omega) h0
theorem press2_e (hR : RT B t u) (hS : US u) (hN : UN u np nq) {r : Nat} (hr : r ≤ 12) (hh : HH) (pp : PP) :
    (∃ q, q < nq ∧ qv u q 4 = 0 ∧ bf u nq q = r ∧ f_X3_pressing t hh pp (nI r) = some (nI q)) ∨ ((∀ i, i < nq → qv u i 4 = 0 → bf u nq i ≠ r) ∧ f_X3_pressing t hh pp (nI r) = some (-1)) := by
  have h := press_loop hR hS hN hr nq 0 2000 (by omega) (by have := hN.2.1; omega) (fun i hi => absurd hi (Nat.not_lt_zero i))
  unfold f_X3_pressing f_X2_quarrelThatPresses
  rw [nI_0] at h
  rcases h with ⟨q, h1, h2, h3, h4⟩ | ⟨h1, h2⟩
  · exact Or.inl ⟨q, h1, h2, h3, by rw [ob h4]⟩
  · exact Or.inr ⟨h1, by rw [ob h2]⟩
theorem pressing_so (hR : RT B t u) (hS : US u) (hN : UN u np nq) (hh : HH) (pp : PP) (z1 z2 z3 z4 z5 : Int32) : ∀ (d r n : Nat) (y7 : Int32), r + d = cnt (wo u) nq → d < n → ((r = 0 ∧ y7 = -1) ∨ ∃ q, q < nq ∧ qv u q 4 = 0 ∧ bf u nq q + 1 = r ∧ y7 = nI q) →
    f_L_arePersonsSo_L223 t hh pp z1 z2 z3 z4 z5 n 1 y7 (fd (wr4 u nq r) gS 0 nq 0) (nI r) = some (1, fd (wo u) gS 0 nq 0) := by
  have hq := hN.2.1
  have hn12 : cnt (wo u) nq ≤ nq := cnt_le _ _
  intro d
  induction d with
  | zero =>
    intro r n y7 hr hn hy
    obtain ⟨n, rfl⟩ : ∃ n', n = n' + 1 := ⟨n - 1, by omega⟩
    have hm : fd (wr4 u nq r) gS 0 nq 0 = fd (wo u) gS 0 nq 0 := fd_ext nq 0 0 (fun i _ hi => by
      rw [Bool.eq_iff_iff, decide_eq_true_eq, decide_eq_true_eq]
      exact ⟨fun h => h.1, fun h => ⟨h, by have := bf_top (show i < nq by omega) h; omega⟩⟩)
    rcases press2_e hR hS hN (show r ≤ 12 by omega) hh pp with ⟨q, q1, q2, q3, q4⟩ | ⟨_, q4⟩
    · have := bf_top q1 q2; omega
    · rw [f_L_arePersonsSo_L223, ob q4, if_pos (by decide), hm]
  | succ d ih =>
    intro r n y7 hr hn hy
    obtain ⟨n, rfl⟩ : ∃ n', n = n' + 1 := ⟨n - 1, by omega⟩
    rcases press2_e hR hS hN (show r ≤ 12 by omega) hh pp with ⟨q, q1, q2, q3, q4⟩ | ⟨q5, q4⟩
    · have hnx := ih (r + 1) n (nI q) (by omega) (by omega) (Or.inr ⟨q, q1, q2, by omega, rfl⟩)
      have hm : fd (wr4 u nq r) gS 0 nq 0 ||| bt q = fd (wr4 u nq (r + 1)) gS 0 nq 0 := by
        refine (fd_add1 nq 0 0 (Nat.zero_le q) (by omega) (fun i _ hi => ?_) (fun c => by have := (of_decide_eq_true c).2; omega)).symm
        rw [decide_eq_true_eq, decide_eq_true_eq]
        constructor
        · rintro ⟨a1, a2⟩
          by_cases c : bf u nq i < r
          · exact Or.inl ⟨a1, c⟩
          · exact Or.inr (bf_inj (by omega) q1 a1 q2 (by omega))
        · rintro (⟨a1, a2⟩ | a)
          · exact ⟨a1, by omega⟩
          · subst a; exact ⟨q2, by omega⟩
      have hp := pr_b hS hN q1
      rw [f_L_arePersonsSo_L223, ob q4, if_neg (nI_pos (by omega)), if_neg (by rw [show (12 : Int32) = nI 12 from rfl]; exact nI_ge (by omega) (by decide)), ob q4, ob (qr_3 hR hN q1 hh pp), ob (qr_2 hR hN q1 hh pp), hm, nI_1]
      rcases hy with ⟨rfl, rfl⟩ | ⟨l, l1, l2, l3, rfl⟩
      · have e1 : (pr u q + 1).toInt = (pr u q).toInt + 1 := by
          have := ti_add (x := pr u q) (y := 1) (by rw [ti_1]; omega) (by rw [ti_1]; omega)
          rw [ti_1] at this
          exact this
        have hlt : (u 4 - qv u q 3 + 1) * qv u q 2 < (u 4 - qv u q 3 + 1) * qv u q 2 + 1 := by
          rw [ti_lt]
          show (pr u q).toInt < (pr u q + 1).toInt
          omega
        rw [if_neg (by decide), ob rfl, if_neg n10, if_pos hlt, ob rfl]
        exact hnx
      · have hb : gb4 u l q := (bf_iff l1 q1 l2 q2).2 (by omega)
        rw [if_pos (nI_pos' (by omega)), ob (qr_3 hR hN l1 hh pp), ob (qr_2 hR hN l1 hh pp), ob rfl, if_neg n10]
        have hv : (if ((u 4 - qv u q 3 + 1) * qv u q 2) < ((u 4 - qv u l 3 + 1) * qv u l 2) then some (1 : Int32) else (if ((u 4 - qv u q 3 + 1) * qv u q 2) = ((u 4 - qv u l 3 + 1) * qv u l 2) then (if nI q ≤ nI l then some (0 : Int32) else some (1 : Int32)) else some (0 : Int32))) = some 1 := by
          rcases hb with c | ⟨c, c2⟩
          · rw [if_pos (ti_lt.2 c)]
          · rw [if_neg (fun x => by
              have h9 : (pr u q).toInt < (pr u l).toInt := ti_lt.1 x
              omega), if_pos (ti_eq.2 c.symm), if_neg (nI_ge c2 (by omega))]
        rw [ob hv]
        exact hnx
    · exfalso
      obtain ⟨q, q1, q2, q3⟩ := (bf_all (u := u) (nq := nq) r (by omega)).2 (by omega)
      exact q5 q q1 q2 q3
abbrev ci (u : Nat → Int32) (nq r : Nat) : Nat := cnt (fun k => decide (¬ qv u k 2 < nI r)) nq
theorem insults_e (hR : RT B t u) (hN : UN u np nq) {r : Nat} (h1 : 1 ≤ r) (h9 : r ≤ 9) (hh : HH) (pp : PP) : f_X3_insults t hh pp (nI r) = some (nI (ci u nq r)) := by
  have hq := hN.2.1
  have hrk : ∀ r : Nat, 1 ≤ r → r ≤ 9 → f_X2_isRank (nI r) = some 1 := by
    intro r a b
    unfold f_X2_isRank
    rw [if_neg (by rw [show (1 : Int32) = nI 1 from rfl]; exact nI_nlt a (by omega)), if_neg (by rw [show (9 : Int32) = nI 9 from rfl]; exact nI_nlt b (by decide))]
  unfold f_X3_insults f_X2_insultsFrom
  rw [ob (hrk r h1 h9), if_neg n10, ob (fd_loop0 (F := f_X2_insultsFrom_L14 t (nI r)) (w := fun k => decide (¬ qv u k 2 < nI r)) (g := gC) hq ?_ ?_ 0), fd_cnt]
  · rfl
  · intro n acc k h1 h2
    rw [f_X2_insultsFrom_L14, if_pos ((nq_le hR hN (by omega)).2 h1)]
  · intro n acc k h1
    rw [f_X2_insultsFrom_L14, if_neg (fun c => absurd ((nq_le hR hN (by omega)).1 c) (by omega)), ob (rq2 hR (by omega)), nI_1]
    by_cases c : qv u k 2 < nI r
    · rw [if_pos c, if_neg (dn c)]
    · rw [if_neg c, if_pos (dp c)]
theorem ci_mono {r r' : Nat} (h : r ≤ r') (h2 : r' ≤ 9) : ci u nq r' ≤ ci u nq r := cnt_mono nq (fun k _ hk => by
  rw [decide_eq_true_eq] at hk ⊢
  intro c
  refine hk (ti_lt.2 ?_)
  have h3 := ti_lt.1 c
  rw [nI_toInt (by omega)] at h3 ⊢
  omega)
theorem ci_1 (hN : UN u np nq) : ci u nq 1 = nq := cnt_all nq (fun k hk => by
  rw [decide_eq_true_eq]
  intro c
  have h3 := ti_lt.1 c
  rw [nI_toInt (by omega)] at h3
  have := (hN.2.2.2.2.2 k hk).2.1
  omega)
theorem insults_so (hR : RT B t u) (hN : UN u np nq) (hh : HH) (pp : PP) (z1 z2 z3 z4 z5 z8 : Int32) : ∀ (r n y : Nat), r ≤ 9 → r < n → y ≤ nq → (r = 9 → y = 0) → (r < 9 → y = ci u nq (r + 1)) →
    f_L_arePersonsSo_L356 t hh pp z1 z2 z3 z4 z5 z8 n 1 (nI y) (nI r) = some (1, nI nq) := by
  have hq := hN.2.1
  intro r
  induction r with
  | zero =>
    intro n y h1 h2 h3 h4 h5
    obtain ⟨n, rfl⟩ : ∃ n', n = n' + 1 := ⟨n - 1, by omega⟩
    rw [f_L_arePersonsSo_L356, if_pos (by decide), h5 (by omega), ci_1 hN]
  | succ r ih =>
    intro n y h1 h2 h3 h4 h5
    obtain ⟨n, rfl⟩ : ∃ n', n = n' + 1 := ⟨n - 1, by omega⟩
    have hin := insults_e hR hN (show 1 ≤ r + 1 by omega) h1 hh pp
    have hle : ci u nq (r + 1) ≤ nq := cnt_le _ _
    have hy : y ≤ ci u nq (r + 1) := by
      by_cases c : r + 1 = 9
      · have := h4 c; omega
      · have := h5 (by omega)
        rw [this]
        exact ci_mono (by omega) (by omega)
    rw [f_L_arePersonsSo_L356, if_neg (nI_nle (by omega) (by omega)), if_neg n10, ob hin, if_neg (nI_nlt hy (by omega)), ob rfl, ob hin, pk_m1]
    exact ih n (ci u nq (r + 1)) (by omega) (by omega) hle (fun c => by omega) (fun _ => rfl)
abbrev g4 (u : Nat → Int32) (nq k : Nat) : Nat := cnt (fun i => decide (qv u i 0 = nI k)) nq
abbrev g5 (u : Nat → Int32) (nq k : Nat) : Nat := cnt (fun i => decide (qv u i 1 = nI k)) nq
abbrev g6 (u : Nat → Int32) (nq k : Nat) : Nat := cnt (fun i => decide (qv u i 6 = nI k)) nq
abbrev g7 (u : Nat → Int32) (nq k : Nat) : Nat := cnt (fun i => decide ((qv u i 0 = nI k ∨ qv u i 1 = nI k) ∧ qv u i 4 = 2)) nq
theorem g67 (hN : UN u np nq) (hX : XI u np nq) {k : Nat} (hk : k < np) : g6 u nq k ≤ g7 u nq k := cnt_mono nq (fun i hi h => by
  rw [decide_eq_true_eq] at h ⊢
  have hp := hN.1
  rcases hX.2.1 i hi with ⟨_, _, c⟩ | ⟨_, _, c⟩ | ⟨s, _, c⟩
  · exact absurd (h.symm.trans c) (nn6 k (by omega))
  · exact absurd (h.symm.trans c) (nn6 k (by omega))
  · refine ⟨?_, s⟩
    rcases c with c | c
    · exact Or.inl (c.symm.trans h)
    · exact Or.inr (c.symm.trans h))
theorem ap_loop (hR : RT B t u) (hN : UN u np nq) (hX : XI u np nq) (hh : HH) (pp : PP) : ∀ (d k n : Nat), k + d = np → d < n →
    f_L_arePersonsSo_L18 t hh pp n (nI (sm (g4 u nq) k)) (nI (sm (g5 u nq) k)) (nI (sm (g6 u nq) k)) (nI (sm (g7 u nq) k)) (fd (fun k => decide (¬ ol u k ≤ 0)) gS 0 k 0) 1 (nI k) = some (nI (sm (g4 u nq) np), nI (sm (g5 u nq) np), nI (sm (g6 u nq) np), nI (sm (g7 u nq) np), fd (fun k => decide (¬ ol u k ≤ 0)) gS 0 np 0, 1) := by
  have hp := hN.1
  have hq := hN.2.1
  intro d
  induction d with
  | zero =>
    intro k n hk hn
    obtain ⟨n, rfl⟩ : ∃ n', n = n' + 1 := ⟨n - 1, by omega⟩
    obtain rfl : k = np := by omega
    rw [f_L_arePersonsSo_L18, ob (ct_1 hR hN hh pp), if_pos (nI_le (Nat.le_refl _) (by omega))]
  | succ d ih =>
    intro k n hk hn
    obtain ⟨n, rfl⟩ : ∃ n', n = n' + 1 := ⟨n - 1, by omega⟩
    have hkp : k < np := by omega
    have pi := hN.2.2.2.2.1 k hkp
    have e4 := of_4 hR hN hkp hh pp
    have e5 := of_5 hR hN hkp hh pp
    have e6 := of_6 hR hN hkp hh pp
    have e7 := of_7 hR hN hkp hh pp
    rw [fd_cnt] at e4 e5 e6 e7
    have l6 : g6 u nq k ≤ nq := cnt_le _ _
    have l7 : g7 u nq k ≤ nq := cnt_le _ _
    have h67 := g67 hN hX hkp
    have v14 : (if ol u k ≤ 0 then some (0 : Int32) else some ((1 : Int32) <<< (nI k &&& 31))) = some (if decide (¬ ol u k ≤ 0) then bt k else 0) := by
      by_cases c : ol u k ≤ 0
      · rw [if_pos c, if_neg (dn c)]
      · rw [if_neg c, if_pos (dp c)]
    have hfd : fd (fun k => decide (¬ ol u k ≤ 0)) gS 0 k 0 ||| (if decide (¬ ol u k ≤ 0) then bt k else 0) = fd (fun k => decide (¬ ol u k ≤ 0)) gS 0 (k + 1) 0 := by
      rw [or_if, fd_s]
    have hnx := ih (k + 1) n (by omega) (by omega)
    rw [sm, sm, sm, sm] at hnx
    rw [f_L_arePersonsSo_L18, ob (ct_1 hR hN hh pp), if_neg (nI_ge hkp (by omega)), ob e4, ob e5, ob e6, ob e7, ob (of_3 hR hN hkp hh pp), ob v14, ob (of_2 hR hN hkp hh pp), if_neg n10, ob (of_0 hR hN hkp hh pp), if_neg (by rw [ti_lt, ti_0]; have := pi.1; omega), ob (of_0 hR hN hkp hh pp), if_neg (by rw [ti_le, show (10 : Int32).toInt = 10 from by decide]; have := pi.1; omega),
      ob (of_1 hR hN hkp hh pp), if_neg (by rw [ti_lt, ti_0]; have := pi.2.1; omega), ob (of_1 hR hN hkp hh pp), if_neg (by rw [ti_le, show (10 : Int32).toInt = 10 from by decide]; have := pi.2.1; omega), ob e6, ob e7, if_neg (nI_nlt h67 (by omega)), nI_add, nI_add, nI_add, nI_add, hfd, nI_1]
    rcases pi.2.2.1 with h | ⟨s, hs, h⟩
    · rw [h, if_pos (by decide)]
      exact hnx
    · have hb := fd_bit (w := fun i => decide (pv u i 2 = nI s)) (n := np) (k := k) (by omega) hkp (decide_eq_true h)
      rw [h, if_neg (nI_pos (by omega)), ob (of_8 hR hN hs hh pp), if_pos hb, if_neg (fun c => hX.1 k hkp (h.trans c))]
      exact hnx
theorem sums_4 (hN : UN u np nq) : sm (g4 u nq) np = nq ∧ sm (g5 u nq) np = nq := by
  have hp := hN.1
  have key : ∀ f : Nat, f < 2 → sm (fun k => cnt (fun i => decide (qv u i f = nI k)) nq) np = nq := by
    intro f hf
    have hv : ∀ i, i < nq → ∃ x, x < np ∧ qv u i f = nI x := by
      intro i hi
      obtain ⟨⟨a, b, ha, hb, hab, e0, e1⟩, _⟩ := hN.2.2.2.2.2 i hi
      rcases (show f = 0 ∨ f = 1 by omega) with rfl | rfl
      · exact ⟨a, ha, e0⟩
      · exact ⟨b, hb, e1⟩
    rw [sm_ext (g' := fun k => cnt (fun i => decide ((qv u i f).toNatClampNeg = k)) nq) np (fun k hk => cnt_ext nq (fun i hi => by
      obtain ⟨x, hx, ex⟩ := hv i hi
      rw [decide_eq_true_eq, decide_eq_true_eq, ex, nI_clamp (by omega), nI_eq (by omega) (by omega)])), sm_cnt, cnt_all nq (fun i hi => by
      obtain ⟨x, hx, ex⟩ := hv i hi
      rw [decide_eq_true_eq, ex, nI_clamp (by omega)]
      exact hx)]
  exact ⟨key 0 (by decide), key 1 (by decide)⟩
theorem sums_6 (hN : UN u np nq) (hX : XI u np nq) : sm (g6 u nq) np = cnt (fun k => decide (qv u k 4 = 2)) nq ∧ sm (g7 u nq) np = 2 * cnt (fun k => decide (qv u k 4 = 2)) nq := by
  have hp := hN.1
  have key : ∀ v : Nat → Nat, (∀ i, i < nq → qv u i 4 = 2 → v i < np) → (∀ i, i < nq → ¬ qv u i 4 = 2 → v i = 100) → sm (fun k => cnt (fun i => decide (v i = k)) nq) np = cnt (fun k => decide (qv u k 4 = 2)) nq := by
    intro v h1 h2
    rw [sm_cnt]
    refine cnt_ext nq (fun i hi => ?_)
    rw [decide_eq_true_eq, decide_eq_true_eq]
    constructor
    · intro h
      refine Classical.byContradiction (fun c => ?_)
      rw [h2 i hi c] at h
      omega
    · exact h1 i hi
  have k6 := key (fun i => if qv u i 4 = 2 then (qv u i 6).toNatClampNeg else 100) (fun i hi c => by
    obtain ⟨⟨a, b, ha, hb, hab, e0, e1⟩, _⟩ := hN.2.2.2.2.2 i hi
    show (if qv u i 4 = 2 then (qv u i 6).toNatClampNeg else 100) < np
    rw [if_pos c]
    rcases hX.2.1 i hi with ⟨s, _⟩ | ⟨s, _⟩ | ⟨s, _, d⟩
    · rw [c] at s; exact absurd s (by decide)
    · rw [c] at s; exact absurd s (by decide)
    · rcases d with d | d
      · rw [d, e0, nI_clamp (by omega)]; exact ha
      · rw [d, e1, nI_clamp (by omega)]; exact hb) (fun i _ c => if_neg c)
  have k0 := key (fun i => if qv u i 4 = 2 then (qv u i 0).toNatClampNeg else 100) (fun i hi c => by
    obtain ⟨⟨a, b, ha, hb, hab, e0, e1⟩, _⟩ := hN.2.2.2.2.2 i hi
    show (if qv u i 4 = 2 then (qv u i 0).toNatClampNeg else 100) < np
    rw [if_pos c, e0, nI_clamp (by omega)]; exact ha) (fun i _ c => if_neg c)
  have k1 := key (fun i => if qv u i 4 = 2 then (qv u i 1).toNatClampNeg else 100) (fun i hi c => by
    obtain ⟨⟨a, b, ha, hb, hab, e0, e1⟩, _⟩ := hN.2.2.2.2.2 i hi
    show (if qv u i 4 = 2 then (qv u i 1).toNatClampNeg else 100) < np
    rw [if_pos c, e1, nI_clamp (by omega)]; exact hb) (fun i _ c => if_neg c)
  constructor
  · rw [← k6]
    refine sm_ext np (fun k hk => cnt_ext nq (fun i hi => ?_))
    obtain ⟨⟨a, b, ha, hb, hab, e0, e1⟩, _⟩ := hN.2.2.2.2.2 i hi
    rw [decide_eq_true_eq, decide_eq_true_eq]
    rcases hX.2.1 i hi with ⟨s, _, d⟩ | ⟨s, _, d⟩ | ⟨s, _, d⟩
    · rw [d, if_neg (by rw [s]; decide)]
      exact ⟨fun c => absurd c.symm (nn6 k (by omega)), fun c => by omega⟩
    · rw [d, if_neg (by rw [s]; decide)]
      exact ⟨fun c => absurd c.symm (nn6 k (by omega)), fun c => by omega⟩
    · rw [if_pos s]
      rcases d with d | d
      · rw [d, e0, nI_clamp (by omega), nI_eq (by omega) (by omega)]
      · rw [d, e1, nI_clamp (by omega), nI_eq (by omega) (by omega)]
  · have h7 : sm (g7 u nq) np = sm (fun k => cnt (fun i => decide ((if qv u i 4 = 2 then (qv u i 0).toNatClampNeg else 100) = k)) nq + cnt (fun i => decide ((if qv u i 4 = 2 then (qv u i 1).toNatClampNeg else 100) = k)) nq) np := by
      refine sm_ext np (fun k hk => cnt_or nq (fun i hi => ?_) (fun i hi => ?_))
      · obtain ⟨⟨a, b, ha, hb, hab, e0, e1⟩, _⟩ := hN.2.2.2.2.2 i hi
        rw [decide_eq_true_eq, decide_eq_true_eq, decide_eq_true_eq, e0, e1]
        by_cases c : qv u i 4 = 2
        · rw [if_pos c, if_pos c, nI_clamp (by omega), nI_clamp (by omega), nI_eq (by omega) (by omega), nI_eq (by omega) (by omega)]
          exact ⟨fun h => h.1, fun h => ⟨h, c⟩⟩
        · rw [if_neg c, if_neg c]
          exact ⟨fun h => absurd h.2 c, fun h => by omega⟩
      · obtain ⟨⟨a, b, ha, hb, hab, e0, e1⟩, _⟩ := hN.2.2.2.2.2 i hi
        rw [decide_eq_true_eq, decide_eq_true_eq, e0, e1]
        rintro ⟨h1, h2⟩
        by_cases c : qv u i 4 = 2
        · rw [if_pos c, nI_clamp (by omega)] at h1 h2
          omega
        · rw [if_neg c] at h1
          omega
    rw [h7, sm_add (fun k => cnt (fun i => decide ((if qv u i 4 = 2 then (qv u i 0).toNatClampNeg else 100) = k)) nq) (fun k => cnt (fun i => decide ((if qv u i 4 = 2 then (qv u i 1).toNatClampNeg else 100) = k)) nq), k0, k1]
    omega
theorem persons_so (hR : RT B t u) (hS : US u) (hN : UN u np nq) (hX : XI u np nq) (hh : HH) (pp : PP) : f_L_arePersonsSo t hh pp = some 1 := by
  have hp := hN.1
  have hq := hN.2.1
  have h18 := ap_loop hR hN hX hh pp np 0 2000 (by omega) (by omega)
  obtain ⟨s4, s5⟩ := sums_4 hN
  obtain ⟨s6, s7⟩ := sums_6 hN hX
  obtain ⟨c2, hc2⟩ : ∃ c2, c2 = cnt (fun k => decide (qv u k 4 = 2)) nq := ⟨_, rfl⟩
  rw [s4, s5, s6, s7, ← hc2] at h18
  have z0 : ∀ g : Nat → Nat, nI (sm g 0) = 0 := fun g => nI_0
  rw [z0, z0, z0, z0, nI_0] at h18
  have h18' : f_L_arePersonsSo_L18 t hh pp 2000 0 0 0 0 0 1 0 = some (nI nq, nI nq, nI c2, nI (2 * c2), fd (fun k => decide (¬ ol u k ≤ 0)) gS 0 np 0, 1) := h18
  have h223 := pressing_so hR hS hN hh pp (nI nq) (nI nq) (nI c2) (nI (2 * c2)) (fd (fun k => decide (¬ ol u k ≤ 0)) gS 0 np 0) (cnt (wo u) nq) 0 2000 (-1) (by omega) (by have := cnt_le (wo u) nq; omega) (Or.inl ⟨rfl, rfl⟩)
  have hm0 : fd (wr4 u nq 0) gS 0 nq 0 = 0 := fd_none nq 0 0 (fun i _ _ => by
    rw [decide_eq_false_iff_not]
    exact fun c => Nat.not_lt_zero _ c.2)
  rw [hm0, nI_0] at h223
  have h356 := insults_so hR hN hh pp (nI nq) (nI nq) (nI c2) (nI (2 * c2)) (fd (fun k => decide (¬ ol u k ≤ 0)) gS 0 np 0) (fd (wo u) gS 0 nq 0) 9 2000 0 (by omega) (by omega) (Nat.zero_le _) (fun _ => rfl) (fun c => by omega)
  rw [nI_0] at h356
  have h356' : f_L_arePersonsSo_L356 t hh pp (nI nq) (nI nq) (nI c2) (nI (2 * c2)) (fd (fun k => decide (¬ ol u k ≤ 0)) gS 0 np 0) (fd (wo u) gS 0 nq 0) 2000 1 0 9 = some (1, nI nq) := h356
  have c6 := ct_6 hR hN hh pp
  rw [fd_cnt, ← hc2] at c6
  have hd : nI (2 * c2) = (2 : Int32) * nI c2 := by rw [show (2 : Int32) = nI 2 from rfl, nI_mul]
  unfold f_L_arePersonsSo
  rw [ob h18']
  show ((f_L_arePersonsSo_L223 t hh pp (nI nq) (nI nq) (nI c2) (nI (2 * c2)) (fd (fun k => decide (¬ ol u k ≤ 0)) gS 0 np 0) 2000 1 (-1) 0 0).bind fun v64 => _) = _
  rw [ob h223]
  show ((f_L_arePersonsSo_L356 t hh pp (nI nq) (nI nq) (nI c2) (nI (2 * c2)) (fd (fun k => decide (¬ ol u k ≤ 0)) gS 0 np 0) (fd (wo u) gS 0 nq 0) 2000 1 0 9).bind fun v74 => _) = _
  rw [ob h356', if_neg n10, ob (ct_2 hR hN hh pp), if_pos rfl, if_pos rfl, ob c6, if_pos rfl, if_pos hd, ob (ct_8 hR hN hh pp), if_pos rfl, ob (ct_3 hR hN hh pp), if_pos rfl, if_pos rfl]
end TC

/-! numbers: own rows for sums with bounds -/
theorem ti_bm {z : Int} (h1 : -2147483648 ≤ z) (h2 : z ≤ 2147483647) : z.bmod (2 ^ 32) = z := Int.bmod_eq_of_le (by omega) (by omega)
theorem ti_add {x y : Int32} (h1 : -2147483648 ≤ x.toInt + y.toInt) (h2 : x.toInt + y.toInt ≤ 2147483647) : (x + y).toInt = x.toInt + y.toInt := by
  rw [Int32.toInt_add]; exact ti_bm h1 h2
theorem ti_sub {x y : Int32} (h1 : -2147483648 ≤ x.toInt - y.toInt) (h2 : x.toInt - y.toInt ≤ 2147483647) : (x - y).toInt = x.toInt - y.toInt := by
  rw [Int32.toInt_sub]; exact ti_bm h1 h2
theorem ti_mul {x y : Int32} (h1 : -2147483648 ≤ x.toInt * y.toInt) (h2 : x.toInt * y.toInt ≤ 2147483647) : (x * y).toInt = x.toInt * y.toInt := by
  rw [Int32.toInt_mul]; exact ti_bm h1 h2
theorem ti_lt {x y : Int32} : x < y ↔ x.toInt < y.toInt := Int32.lt_iff_toInt_lt
theorem ti_le {x y : Int32} : x ≤ y ↔ x.toInt ≤ y.toInt := Int32.le_iff_toInt_le
theorem ti_eq {x y : Int32} : x = y ↔ x.toInt = y.toInt := Int32.toInt_inj.symm
theorem nI_mul (a b : Nat) : nI a * nI b = nI (a * b) := (Int32.ofNat_mul a b).symm
theorem ti_0 : (0 : Int32).toInt = 0 := by decide
theorem ti_1 : (1 : Int32).toInt = 1 := by decide
theorem ti_2 : (2 : Int32).toInt = 2 := by decide
theorem ti_9 : (9 : Int32).toInt = 9 := by decide
theorem ti_m1 : (-1 : Int32).toInt = -1 := by decide
theorem ti_m6 : (-6 : Int32).toInt = -6 := by decide
theorem ti_500 : (500 : Int32).toInt = 500 := by decide
/-- fields of the model's row -/
abbrev qv (u : Nat → Int32) (k w : Nat) : Int32 := u (48 + 8 * k + w)
abbrev pv (u : Nat → Int32) (k w : Nat) : Int32 := u (6 + 4 * k + w)
theorem x4_rd {u : Nat → Int32} {a : Int32} {N n : Nat} (ha : a = nI n) (h : n < N) (hN : N < 2000) : rd u N a = some (u n) := by
  subst ha; unfold rd; rw [if_neg (nI_in h (by omega)), nI_clamp (by omega)]
theorem x4_wr {u : Nat → Int32} {a : Int32} {N n : Nat} {v : Int32} (ha : a = nI n) (h : n < N) (hN : N < 2000) : wr u N a v = some (upd u n v) := by
  subst ha; unfold wr; rw [if_neg (nI_in h (by omega)), nI_clamp (by omega)]
theorem x4_qi {k w : Nat} {a : Int32} (ha : a = nI w) : ((48 : Int32) + (8 : Int32) * nI k) + a = nI (48 + 8 * k + w) := by
  subst ha; rw [show (48 : Int32) = nI 48 from rfl, show (8 : Int32) = nI 8 from rfl, nI_mul, nI_add, nI_add]
theorem x4_qj {k : Nat} : (48 : Int32) + (8 : Int32) * nI k = nI (48 + 8 * k) := by
  rw [show (48 : Int32) = nI 48 from rfl, show (8 : Int32) = nI 8 from rfl, nI_mul, nI_add]
theorem x4_pi {k w : Nat} {a : Int32} (ha : a = nI w) : ((6 : Int32) + (4 : Int32) * nI k) + a = nI (6 + 4 * k + w) := by
  subst ha; rw [show (6 : Int32) = nI 6 from rfl, show (4 : Int32) = nI 4 from rfl, nI_mul, nI_add, nI_add]
theorem x4_pj {k : Nat} : (6 : Int32) + (4 : Int32) * nI k = nI (6 + 4 * k) := by
  rw [show (6 : Int32) = nI 6 from rfl, show (4 : Int32) = nI 4 from rfl, nI_mul, nI_add]
theorem x4_q {u : Nat → Int32} {k : Nat} (w : Nat) {a : Int32} (ha : a = nI w) (hk : k < 12) (hw : w < 8) : f_X4_quarrel0 u (nI k) a = some (qv u k w) := by
  unfold f_X4_quarrel0; rw [x4_rd (x4_qi ha) (by omega) (by decide)]; rfl
theorem x4_p {u : Nat → Int32} {k : Nat} (w : Nat) {a : Int32} (ha : a = nI w) (hk : k < 10) (hw : w < 4) : f_X4_person0 u (nI k) a = some (pv u k w) := by
  unfold f_X4_person0; rw [x4_rd (x4_pi ha) (by omega) (by decide)]; rfl
theorem x4_g {u : Nat → Int32} (n : Nat) {a : Int32} (ha : a = nI n) (h : n < 181) : rd u 181 a = some (u n) := x4_rd ha h (by decide)
/-- the town's rows and the model's row -/
def qp (w : Nat) : Nat := if w = 6 then 7 else if w = 7 then 6 else w
def EV (B : Nat) (t : TT) (u : Nat → Int32) : Prop := ∃ ne : Nat, ne ≤ B ∧ t.2.2.2.2.1 = nI ne ∧ u 144 = nI (min ne 12) ∧ ∀ r w, r < min ne 12 → w < 3 → t.2.2.2.2.2 (140 + 12 * w + (ne - 1 - r) % 12) = u (145 + 3 * r + w)
def RC (g u : Nat → Int32) : Prop := (∀ j, j < 4 → g j = u j) ∧ (∀ w k, w < 4 → k < 10 → g (4 + 10 * w + k) = u (6 + 4 * k + w)) ∧ (∀ w k, w < 8 → k < 12 → g (44 + 12 * qp w + k) = u (48 + 8 * k + w))
def RT (B : Nat) (t : TT) (u : Nat → Int32) : Prop := t.1 = u 4 ∧ t.2.1 = u 46 ∧ t.2.2.1 = u 5 ∧ t.2.2.2.1 = u 47 ∧ RC t.2.2.2.2.2 u ∧ EV B t u
def PI (u : Nat → Int32) (np k : Nat) : Prop := (0 ≤ (pv u k 0).toInt ∧ (pv u k 0).toInt ≤ 9) ∧ (0 ≤ (pv u k 1).toInt ∧ (pv u k 1).toInt ≤ 9) ∧ (pv u k 2 = -6 ∨ ∃ j, j < np ∧ pv u k 2 = nI j) ∧ (0 ≤ (pv u k 3).toInt ∧ (pv u k 3).toInt ≤ 10199)
def QI (u : Nat → Int32) (np k : Nat) : Prop := (∃ a b, a < np ∧ b < np ∧ a ≠ b ∧ qv u k 0 = nI a ∧ qv u k 1 = nI b) ∧ (1 ≤ (qv u k 2).toInt ∧ (qv u k 2).toInt ≤ 9) ∧ (0 ≤ (qv u k 3).toInt ∧ (qv u k 3).toInt ≤ 9999) ∧ (0 ≤ (qv u k 7).toInt ∧ (qv u k 7).toInt ≤ 9999)
def UN (u : Nat → Int32) (np nq : Nat) : Prop := np ≤ 10 ∧ nq ≤ 12 ∧ u 5 = nI np ∧ u 47 = nI nq ∧ (∀ k, k < np → PI u np k) ∧ (∀ k, k < nq → QI u np k)
def US (u : Nat → Int32) : Prop := (1 ≤ (u 0).toInt ∧ (u 0).toInt ≤ 48) ∧ (0 ≤ (u 1).toInt ∧ (u 1).toInt ≤ 99) ∧ (1 ≤ (u 2).toInt ∧ (u 2).toInt ≤ 200) ∧ (0 ≤ (u 3).toInt ∧ (u 3).toInt ≤ 400) ∧ (0 ≤ (u 4).toInt ∧ (u 4).toInt ≤ 9999) ∧ (0 ≤ (u 46).toInt ∧ (u 46).toInt ≤ 31)
def UI (u : Nat → Int32) : Prop := US u ∧ ∃ np nq, UN u np nq
theorem EV.mono {B B' : Nat} {t : TT} {u : Nat → Int32} (h : EV B t u) (hb : B ≤ B') : EV B' t u := by
  obtain ⟨ne, h1, h2⟩ := h
  exact ⟨ne, Nat.le_trans h1 hb, h2⟩
theorem RT.mono {B B' : Nat} {t : TT} {u : Nat → Int32} (h : RT B t u) (hb : B ≤ B') : RT B' t u := ⟨h.1, h.2.1, h.2.2.1, h.2.2.2.1, h.2.2.2.2.1, h.2.2.2.2.2.mono hb⟩
theorem ifc {α : Type} {w z : Prop} [Decidable w] [Decidable z] (h : w ↔ z) {x y : α} : (if w then x else y) = if z then x else y := by
  by_cases c : w
  · rw [if_pos c, if_pos (h.1 c)]
  · rw [if_neg c, if_neg (mt h.2 c)]
section SA
variable {B : Nat} {t : TT} {u : Nat → Int32} {np nq : Nat}
theorem x2_rd {r k : Nat} {a : Int32} (ha : a = nI r) (h : r + k < 176) : f_X2_read t a (nI k) = some (t.2.2.2.2.2 (r + k)) := by
  subst ha
  unfold f_X2_read
  rw [nI_add, if_neg (nI_pos (by omega)), show (176 : Int32) = nI 176 from rfl, if_neg (nI_ge h (by decide)), x4_rd rfl h (by decide)]
  rfl
theorem x2_q (hR : RT B t u) {k : Nat} (w : Nat) {a : Int32} (ha : a = nI (44 + 12 * qp w)) (hk : k < 12) (hw : w < 8) : f_X2_read t a (nI k) = some (qv u k w) := by
  rw [x2_rd ha (by unfold qp; split; · omega
                   · split <;> omega)]
  exact congrArg some (hR.2.2.2.2.1.2.2 w k hw hk)
theorem x2_p (hR : RT B t u) {k : Nat} (w : Nat) {a : Int32} (ha : a = nI (4 + 10 * w)) (hk : k < 10) (hw : w < 4) : f_X2_read t a (nI k) = some (pv u k w) := by
  rw [x2_rd ha (by omega)]
  exact congrArg some (hR.2.2.2.2.1.2.1 w k hw hk)
theorem x2_s (hR : RT B t u) {k : Nat} {a : Int32} (ha : a = nI k) (hk : k < 4) : f_X2_read t 0 a = some (u k) := by
  subst ha
  rw [x2_rd (r := 0) (a := 0) nI_0.symm (by omega), Nat.zero_add]
  exact congrArg some (hR.2.2.2.2.1.1 k hk)
theorem rq0 (hR : RT B t u) {k : Nat} (hk : k < 12) : f_X2_read t 44 (nI k) = some (qv u k 0) := x2_q hR 0 rfl hk (by decide)
theorem rq1 (hR : RT B t u) {k : Nat} (hk : k < 12) : f_X2_read t 56 (nI k) = some (qv u k 1) := x2_q hR 1 rfl hk (by decide)
theorem rq2 (hR : RT B t u) {k : Nat} (hk : k < 12) : f_X2_read t 68 (nI k) = some (qv u k 2) := x2_q hR 2 rfl hk (by decide)
theorem rq3 (hR : RT B t u) {k : Nat} (hk : k < 12) : f_X2_read t 80 (nI k) = some (qv u k 3) := x2_q hR 3 rfl hk (by decide)
theorem rq4 (hR : RT B t u) {k : Nat} (hk : k < 12) : f_X2_read t 92 (nI k) = some (qv u k 4) := x2_q hR 4 rfl hk (by decide)
theorem rq5 (hR : RT B t u) {k : Nat} (hk : k < 12) : f_X2_read t 104 (nI k) = some (qv u k 5) := x2_q hR 5 rfl hk (by decide)
theorem rq7 (hR : RT B t u) {k : Nat} (hk : k < 12) : f_X2_read t 116 (nI k) = some (qv u k 7) := x2_q hR 7 rfl hk (by decide)
theorem rq6 (hR : RT B t u) {k : Nat} (hk : k < 12) : f_X2_read t 128 (nI k) = some (qv u k 6) := x2_q hR 6 rfl hk (by decide)
theorem rdp0 (hR : RT B t u) {k : Nat} (hk : k < 10) : f_X2_read t 4 (nI k) = some (pv u k 0) := x2_p hR 0 rfl hk (by decide)
theorem rdp1 (hR : RT B t u) {k : Nat} (hk : k < 10) : f_X2_read t 14 (nI k) = some (pv u k 1) := x2_p hR 1 rfl hk (by decide)
theorem rdp2 (hR : RT B t u) {k : Nat} (hk : k < 10) : f_X2_read t 24 (nI k) = some (pv u k 2) := x2_p hR 2 rfl hk (by decide)
theorem rdp3 (hR : RT B t u) {k : Nat} (hk : k < 10) : f_X2_read t 34 (nI k) = some (pv u k 3) := x2_p hR 3 rfl hk (by decide)
theorem rs0 (hR : RT B t u) : f_X2_read t 0 0 = some (u 0) := x2_s (k := 0) hR rfl (by decide)
theorem rs1 (hR : RT B t u) : f_X2_read t 0 1 = some (u 1) := x2_s (k := 1) hR rfl (by decide)
theorem rs2 (hR : RT B t u) : f_X2_read t 0 2 = some (u 2) := x2_s (k := 2) hR rfl (by decide)
theorem rs3 (hR : RT B t u) : f_X2_read t 0 3 = some (u 3) := x2_s (k := 3) hR rfl (by decide)
theorem mq0 {k : Nat} (hk : k < 12) : f_X4_quarrel0 u (nI k) 0 = some (qv u k 0) := x4_q 0 rfl hk (by decide)
theorem mq1 {k : Nat} (hk : k < 12) : f_X4_quarrel0 u (nI k) 1 = some (qv u k 1) := x4_q 1 rfl hk (by decide)
theorem mq2 {k : Nat} (hk : k < 12) : f_X4_quarrel0 u (nI k) 2 = some (qv u k 2) := x4_q 2 rfl hk (by decide)
theorem mq3 {k : Nat} (hk : k < 12) : f_X4_quarrel0 u (nI k) 3 = some (qv u k 3) := x4_q 3 rfl hk (by decide)
theorem mq4 {k : Nat} (hk : k < 12) : f_X4_quarrel0 u (nI k) 4 = some (qv u k 4) := x4_q 4 rfl hk (by decide)
theorem mq5 {k : Nat} (hk : k < 12) : f_X4_quarrel0 u (nI k) 5 = some (qv u k 5) := x4_q 5 rfl hk (by decide)
theorem mq6 {k : Nat} (hk : k < 12) : f_X4_quarrel0 u (nI k) 6 = some (qv u k 6) := x4_q 6 rfl hk (by decide)
theorem mq7 {k : Nat} (hk : k < 12) : f_X4_quarrel0 u (nI k) 7 = some (qv u k 7) := x4_q 7 rfl hk (by decide)
theorem mp0 {k : Nat} (hk : k < 10) : f_X4_person0 u (nI k) 0 = some (pv u k 0) := x4_p 0 rfl hk (by decide)
theorem mp1 {k : Nat} (hk : k < 10) : f_X4_person0 u (nI k) 1 = some (pv u k 1) := x4_p 1 rfl hk (by decide)
theorem mp2 {k : Nat} (hk : k < 10) : f_X4_person0 u (nI k) 2 = some (pv u k 2) := x4_p 2 rfl hk (by decide)
theorem mp3 {k : Nat} (hk : k < 10) : f_X4_person0 u (nI k) 3 = some (pv u k 3) := x4_p 3 rfl hk (by decide)
theorem ms0 : rd u 181 0 = some (u 0) := x4_g 0 rfl (by decide)
theorem ms1 : rd u 181 1 = some (u 1) := x4_g 1 rfl (by decide)
theorem ms2 : rd u 181 2 = some (u 2) := x4_g 2 rfl (by decide)
theorem ms3 : rd u 181 3 = some (u 3) := x4_g 3 rfl (by decide)
theorem ms4 : rd u 181 4 = some (u 4) := x4_g 4 rfl (by decide)
theorem ms5 : rd u 181 5 = some (u 5) := x4_g 5 rfl (by decide)
theorem ms46 : rd u 181 46 = some (u 46) := x4_g 46 rfl (by decide)
theorem ms47 : rd u 181 47 = some (u 47) := x4_g 47 rfl (by decide)
theorem ms144 : rd u 181 144 = some (u 144) := x4_g 144 rfl (by decide)
theorem ob {α β : Type} {o : Option α} {a : α} {f : α → Option β} (h : o = some a) : o.bind f = f a := by rw [h]; rfl
theorem isOpen_e (hR : RT B t u) {k : Nat} (hk : k < 12) : f_X2_isOpen t (nI k) = some (if qv u k 4 = 0 then 1 else 0) := by
  unfold f_X2_isOpen; rw [ob (rq4 hR hk)]; split <;> rfl
theorem hoursSince_e (hR : RT B t u) {k : Nat} (hk : k < 12) : f_X2_hoursSince t (nI k) = some (u 4 - qv u k 3) := by
  unfold f_X2_hoursSince; rw [ob (rq3 hR hk), hR.1]
theorem since_e {k : Nat} (hk : k < 12) : f_X4_since u (nI k) = some (u 4 - qv u k 3) := by
  unfold f_X4_since; rw [ob ms4, ob (mq3 hk)]
theorem oathLeft_e (hR : RT B t u) {k : Nat} (hk : k < 10) : f_X2_oathLeft t (nI k) = some (if (0 : Int32) < pv u k 3 - u 4 then pv u k 3 - u 4 else 0) := by
  unfold f_X2_oathLeft; rw [ob (rdp3 hR hk), hR.1]
theorem isUnderOath_e {k : Nat} (hk : k < 10) (b : Int32) : f_X4_isUnderOath u (nI k) b = some (if pv u k 3 ≤ u 4 + b then 0 else 1) := by
  unfold f_X4_isUnderOath; rw [ob (mp3 hk), ob ms4]; split <;> rfl
abbrev TH (a b x y : Int32) : Prop := a = x ∧ b = y ∨ a = y ∧ b = x
theorem th_gen {α : Type} {w x y z : Prop} [Decidable w] [Decidable x] [Decidable y] [Decidable z] (A C : α) : (if w then (if x then A else (if y then (if z then A else C) else C)) else (if y then (if z then A else C) else C)) = if (w ∧ x ∨ y ∧ z) then A else C := by
  by_cases h1 : w <;> by_cases h2 : x <;> by_cases h3 : y <;> by_cases h4 : z <;> simp only [h1, h2, h3, h4, if_true, if_false, and_true, and_false, true_and, false_and, or_true, or_false, true_or, false_or, and_self, or_self, ite_self]
theorem areThese_e (a b x y : Int32) : f_X2_areThese a b x y = some (if TH a b x y then 1 else 0) := by
  unfold f_X2_areThese; rw [th_gen]; split <;> rfl
theorem areOfThese_e {k : Nat} (hk : k < 12) (a b : Int32) : f_X4_areOfThese u (nI k) a b = some (if TH a b (qv u k 0) (qv u k 1) then 1 else 0) := by
  unfold f_X4_areOfThese; rw [ob (mq0 hk), ob (mq1 hk), th_gen]
  have : (qv u k 0 = a ∧ qv u k 1 = b ∨ qv u k 0 = b ∧ qv u k 1 = a) ↔ TH a b (qv u k 0) (qv u k 1) := by
    constructor
    · rintro (⟨h1, h2⟩ | ⟨h1, h2⟩)
      · exact Or.inl ⟨h1.symm, h2.symm⟩
      · exact Or.inr ⟨h2.symm, h1.symm⟩
    · rintro (⟨h1, h2⟩ | ⟨h1, h2⟩)
      · exact Or.inl ⟨h1.symm, h2.symm⟩
      · exact Or.inr ⟨h2.symm, h1.symm⟩
  rw [ifc this]; split <;> rfl
theorem nq_le (hR : RT B t u) (hN : UN u np nq) {k : Nat} (hk : k < 2000) : t.2.2.2.1 ≤ nI k ↔ nq ≤ k := by
  rw [hR.2.2.2.1, hN.2.2.2.1]; exact nI_leI (by have := hN.2.1; omega) (by omega)
theorem mq_le (hN : UN u np nq) {k : Nat} (hk : k < 2000) : u 47 ≤ nI k ↔ nq ≤ k := by
  rw [hN.2.2.2.1]; exact nI_leI (by have := hN.2.1; omega) (by omega)
theorem np_le (hR : RT B t u) (hN : UN u np nq) {k : Nat} (hk : k < 2000) : t.2.2.1 ≤ nI k ↔ np ≤ k := by
  rw [hR.2.2.1, hN.2.2.1]; exact nI_leI (by have := hN.1; omega) (by omega)
theorem mp_le (hN : UN u np nq) {k : Nat} (hk : k < 2000) : u 5 ≤ nI k ↔ np ≤ k := by
  rw [hN.2.2.1]; exact nI_leI (by have := hN.1; omega) (by omega)
end SA

/-! loops that count and loops that gather a set -/
def fd (w : Nat → Bool) (g : Int32 → Nat → Int32) : Nat → Nat → Int32 → Int32
  | _, 0, acc => acc
  | k, d + 1, acc => fd w g (k + 1) d (if w k then g acc k else acc)
theorem fd_loop {F : Nat → Int32 → Int32 → Option Int32} {w : Nat → Bool} {g : Int32 → Nat → Int32} {nq : Nat} (hq : nq ≤ 12)
    (h0 : ∀ n acc k, nq ≤ k → k ≤ 12 → F (n + 1) acc (nI k) = some acc) (h1 : ∀ n acc k, k < nq → F (n + 1) acc (nI k) = F n (if w k then g acc k else acc) (nI (k + 1))) :
    ∀ (d k n : Nat) (acc : Int32), k + d = nq → d < n → F n acc (nI k) = some (fd w g k d acc) := by
  intro d
  induction d with
  | zero =>
    intro k n acc h2 h3
    obtain ⟨n, rfl⟩ : ∃ n', n = n' + 1 := ⟨n - 1, by omega⟩
    exact h0 n acc k (by omega) (by omega)
  | succ d ih =>
    intro k n acc h2 h3
    obtain ⟨n, rfl⟩ : ∃ n', n = n' + 1 := ⟨n - 1, by omega⟩
    rw [h1 n acc k (by omega), ih (k + 1) n _ (by omega) (by omega), fd]
theorem fd_loop0 {F : Nat → Int32 → Int32 → Option Int32} {w : Nat → Bool} {g : Int32 → Nat → Int32} {nq : Nat} (hq : nq ≤ 12)
    (h0 : ∀ n acc k, nq ≤ k → k ≤ 12 → F (n + 1) acc (nI k) = some acc) (h1 : ∀ n acc k, k < nq → F (n + 1) acc (nI k) = F n (if w k then g acc k else acc) (nI (k + 1))) (acc : Int32) :
    F 2000 acc 0 = some (fd w g 0 nq acc) := by
  have := fd_loop hq h0 h1 nq 0 2000 acc (by omega) (by omega)
  rw [nI_0] at this
  exact this
theorem fd_ext {w w' : Nat → Bool} {g : Int32 → Nat → Int32} : ∀ (d k : Nat) (acc : Int32), (∀ i, k ≤ i → i < k + d → w i = w' i) → fd w g k d acc = fd w' g k d acc := by
  intro d
  induction d with
  | zero => intro k acc _; rfl
  | succ d ih =>
    intro k acc h
    rw [fd, fd, h k (Nat.le_refl k) (by omega), ih (k + 1) _ (fun i h1 h2 => h i (by omega) (by omega))]
theorem fd_none {w : Nat → Bool} {g : Int32 → Nat → Int32} : ∀ (d k : Nat) (acc : Int32), (∀ i, k ≤ i → i < k + d → w i = false) → fd w g k d acc = acc := by
  intro d
  induction d with
  | zero => intro k acc _; rfl
  | succ d ih =>
    intro k acc h
    rw [fd, h k (Nat.le_refl k) (by omega), if_neg (by decide), ih (k + 1) _ (fun i h1 h2 => h i (by omega) (by omega))]
theorem fd_add {w : Nat → Bool} {g : Int32 → Nat → Int32} : ∀ (d1 d2 k : Nat) (acc : Int32), fd w g k (d1 + d2) acc = fd w g (k + d1) d2 (fd w g k d1 acc) := by
  intro d1
  induction d1 with
  | zero => intro d2 k acc; rw [Nat.zero_add]; rfl
  | succ d1 ih =>
    intro d2 k acc
    rw [show d1 + 1 + d2 = (d1 + d2) + 1 from by omega, fd, fd, ih, show k + 1 + d1 = k + (d1 + 1) from by omega]
theorem fd_12 {w : Nat → Bool} {g : Int32 → Nat → Int32} {nq : Nat} (hq : nq ≤ 12) (acc : Int32) : fd w g 0 nq acc = fd (fun i => w i && decide (i < nq)) g 0 12 acc := by
  obtain ⟨r, hr⟩ : ∃ r, 12 = nq + r := ⟨12 - nq, by omega⟩
  rw [hr, fd_add, fd_none r _ _ (fun i h1 _ => by
    have : ¬ i < nq := by omega
    simp [this])]
  exact fd_ext nq 0 acc (fun i _ h2 => by
    have : i < nq := by omega
    simp [this])
abbrev gC : Int32 → Nat → Int32 := fun a _ => a + 1
abbrev gS : Int32 → Nat → Int32 := fun a k => a ||| ((1 : Int32) <<< (nI k &&& 31))
theorem i_add0 (x : Int32) : x + 0 = x := Int32.add_zero x
theorem i_or0 (x : Int32) : x ||| 0 = x := Int32.or_zero
def sz16 (x : Int32) : Int32 := 0 + ((x >>> (nI 0 &&& 31)) &&& 1) + ((x >>> (nI 1 &&& 31)) &&& 1) + ((x >>> (nI 2 &&& 31)) &&& 1) + ((x >>> (nI 3 &&& 31)) &&& 1) + ((x >>> (nI 4 &&& 31)) &&& 1) + ((x >>> (nI 5 &&& 31)) &&& 1) + ((x >>> (nI 6 &&& 31)) &&& 1) + ((x >>> (nI 7 &&& 31)) &&& 1) + ((x >>> (nI 8 &&& 31)) &&& 1) + ((x >>> (nI 9 &&& 31)) &&& 1) + ((x >>> (nI 10 &&& 31)) &&& 1) + ((x >>> (nI 11 &&& 31)) &&& 1) + ((x >>> (nI 12 &&& 31)) &&& 1) + ((x >>> (nI 13 &&& 31)) &&& 1) + ((x >>> (nI 14 &&& 31)) &&& 1) + ((x >>> (nI 15 &&& 31)) &&& 1)
theorem sz_step {x acc : Int32} {n k : Nat} (hk : k < 16) : f_X4_size_L4 x (n + 1) acc (nI k) = f_X4_size_L4 x n (acc + ((x >>> (nI k &&& 31)) &&& 1)) (nI (k + 1)) := by
  rw [f_X4_size_L4, if_neg (by rw [show (16 : Int32) = nI 16 from rfl]; exact nI_ge hk (by decide)), nI_1]
theorem size_e (x : Int32) : f_X4_size x = some (sz16 x) := by
  unfold f_X4_size
  rw [show (2000 : Nat) = 1983 + 1 + 1 + 1 + 1 + 1 + 1 + 1 + 1 + 1 + 1 + 1 + 1 + 1 + 1 + 1 + 1 + 1 from rfl]
  have h : f_X4_size_L4 x (1983 + 1 + 1 + 1 + 1 + 1 + 1 + 1 + 1 + 1 + 1 + 1 + 1 + 1 + 1 + 1 + 1 + 1) 0 (nI 0) = some (sz16 x) := by
    rw [sz_step (by decide), sz_step (by decide), sz_step (by decide), sz_step (by decide), sz_step (by decide), sz_step (by decide), sz_step (by decide), sz_step (by decide), sz_step (by decide), sz_step (by decide), sz_step (by decide), sz_step (by decide), sz_step (by decide), sz_step (by decide), sz_step (by decide), sz_step (by decide), f_X4_size_L4, if_pos (by decide)]
    rfl
  rw [nI_0] at h
  rw [ob h]
abbrev sg (b : Bool) (k : Nat) (acc : Int32) : Int32 := if b then acc ||| ((1 : Int32) <<< (nI k &&& 31)) else acc
abbrev cg (b : Bool) (acc : Int32) : Int32 := if b then acc + 1 else acc
theorem sz_12 : ∀ b0 b1 b2 b3 b4 b5 b6 b7 b8 b9 b10 b11 : Bool, sz16 (sg b11 11 (sg b10 10 (sg b9 9 (sg b8 8 (sg b7 7 (sg b6 6 (sg b5 5 (sg b4 4 (sg b3 3 (sg b2 2 (sg b1 1 (sg b0 0 0)))))))))))) = cg b11 (cg b10 (cg b9 (cg b8 (cg b7 (cg b6 (cg b5 (cg b4 (cg b3 (cg b2 (cg b1 (cg b0 0))))))))))) := by decide +kernel
theorem bc_12 : ∀ b0 b1 b2 b3 b4 b5 b6 b7 b8 b9 b10 b11 : Bool, f_J6_bitCount_0f7a4 (sg b11 11 (sg b10 10 (sg b9 9 (sg b8 8 (sg b7 7 (sg b6 6 (sg b5 5 (sg b4 4 (sg b3 3 (sg b2 2 (sg b1 1 (sg b0 0 0)))))))))))) = some (sz16 (sg b11 11 (sg b10 10 (sg b9 9 (sg b8 8 (sg b7 7 (sg b6 6 (sg b5 5 (sg b4 4 (sg b3 3 (sg b2 2 (sg b1 1 (sg b0 0 0))))))))))))) := by decide +kernel
theorem sz_fd {w : Nat → Bool} {nq : Nat} (hq : nq ≤ 12) : sz16 (fd w gS 0 nq 0) = fd w gC 0 nq 0 := by
  rw [fd_12 hq, fd_12 hq]
  exact sz_12 _ _ _ _ _ _ _ _ _ _ _ _
theorem bc_fd {w : Nat → Bool} {nq : Nat} (hq : nq ≤ 12) : f_J6_bitCount_0f7a4 (fd w gS 0 nq 0) = some (sz16 (fd w gS 0 nq 0)) := by
  rw [fd_12 hq]
  exact bc_12 _ _ _ _ _ _ _ _ _ _ _ _
theorem fd_nI {w : Nat → Bool} : ∀ (d k a : Nat), ∃ b, b ≤ a + d ∧ fd w gC k d (nI a) = nI b := by
  intro d
  induction d with
  | zero => intro k a; exact ⟨a, Nat.le_refl a, rfl⟩
  | succ d ih =>
    intro k a
    by_cases c : w k = true
    · obtain ⟨b, h1, h2⟩ := ih (k + 1) (a + 1)
      exact ⟨b, by omega, by rw [fd, if_pos c]; show fd w gC (k + 1) d (nI a + 1) = nI b; rw [nI_1, h2]⟩
    · obtain ⟨b, h1, h2⟩ := ih (k + 1) a
      exact ⟨b, by omega, by rw [fd, if_neg c, h2]⟩
theorem fd_pos {w : Nat → Bool} {nq : Nat} (hq : nq ≤ 12) : 0 ≤ fd w gC 0 nq 0 := by
  obtain ⟨b, h1, h2⟩ := fd_nI (w := w) nq 0 0
  rw [nI_0] at h2
  rw [h2]
  exact nI_pos' (by omega)
theorem dn {c : Prop} [Decidable c] (h : c) : ¬ decide (¬ c) = true := by simp [h]
theorem dp {c : Prop} [Decidable c] (h : ¬ c) : decide (¬ c) = true := by simp [h]
section SF
variable {B : Nat} {t : TT} {u : Nat → Int32} {np nq : Nat}
theorem qw_e (hR : RT B t u) (hN : UN u np nq) {row : Int32} {f : Nat} (hrow : ∀ k, k < 12 → f_X2_read t row (nI k) = some (qv u k f)) (v : Int32) : f_X2_quarrelsWith t row v = some (fd (fun k => decide (qv u k f = v)) gC 0 nq 0) := by
  unfold f_X2_quarrelsWith
  have hq := hN.2.1
  rw [ob (fd_loop0 (F := f_X2_quarrelsWith_L5 t row v) (w := fun k => decide (qv u k f = v)) (g := gC) hq ?_ ?_ 0)]
  · intro n acc k h1 h2
    rw [f_X2_quarrelsWith_L5, if_pos ((nq_le hR hN (by omega)).2 h1)]
  · intro n acc k h1
    rw [f_X2_quarrelsWith_L5, if_neg (fun c => absurd ((nq_le hR hN (by omega)).1 c) (by omega)), ob (hrow k (by omega)), nI_1]
    by_cases c : qv u k f = v
    · rw [if_pos c, if_pos (by simp [c])]
    · rw [if_neg c, if_neg (by simp [c])]
theorem duelsOf_e (hR : RT B t u) (hN : UN u np nq) (v : Int32) : f_X2_duelsOf t v = some (fd (fun k => decide ((qv u k 0 = v ∨ qv u k 1 = v) ∧ qv u k 4 = 2)) gC 0 nq 0) := by
  unfold f_X2_duelsOf
  have hq := hN.2.1
  rw [ob (fd_loop0 (F := f_X2_duelsOf_L4 t v) (w := fun k => decide ((qv u k 0 = v ∨ qv u k 1 = v) ∧ qv u k 4 = 2)) (g := gC) hq ?_ ?_ 0)]
  · intro n acc k h1 h2
    rw [f_X2_duelsOf_L4, if_pos ((nq_le hR hN (by omega)).2 h1)]
  · intro n acc k h1
    rw [f_X2_duelsOf_L4, if_neg (fun c => absurd ((nq_le hR hN (by omega)).1 c) (by omega)), ob (rq0 hR (by omega)), nI_1]
    have hv : (if qv u k 0 = v then some (1 : Int32) else ((f_X2_read t (56 : Int32) (nI k)).bind fun x10 => (if x10 = v then some (1 : Int32) else some (0 : Int32)))) = some (if qv u k 0 = v ∨ qv u k 1 = v then 1 else 0) := by
      by_cases c : qv u k 0 = v
      · rw [if_pos c, if_pos (Or.inl c)]
      · rw [if_neg c, ob (rq1 hR (by omega))]
        by_cases c1 : qv u k 1 = v
        · rw [if_pos c1, if_pos (Or.inr c1)]
        · rw [if_neg c1, if_neg (fun d => d.elim c c1)]
    rw [ob hv]
    by_cases c : qv u k 0 = v ∨ qv u k 1 = v
    · rw [if_pos c, if_neg (by decide), ob (rq4 hR (by omega))]
      by_cases c4 : qv u k 4 = 2
      · rw [if_pos c4, if_pos (by simp only [decide_eq_true_eq]; exact ⟨c, c4⟩)]
      · rw [if_neg c4, if_neg (by simp only [decide_eq_true_eq]; exact fun d => c4 d.2)]
    · rw [if_neg c, if_pos rfl, if_neg (by simp only [decide_eq_true_eq]; exact fun d => c d.1)]
theorem parts_e (hN : UN u np nq) (v what : Int32) (w : Nat → Bool) (hw : ∀ k, k < 12 → (w k = true ↔ (if what = 4 then qv u k 0 = v else if what = 5 then qv u k 1 = v else if what = 6 then qv u k 6 = v else (qv u k 0 = v ∨ qv u k 1 = v) ∧ qv u k 4 = 2))) : f_X4_parts u v what = some (fd w gC 0 nq 0) := by
  unfold f_X4_parts
  have hq := hN.2.1
  rw [ob (fd_loop0 (F := f_X4_parts_L5 u v what) (w := w) (g := gC) hq ?_ ?_ 0)]
  · intro n acc k h1 h2
    rw [f_X4_parts_L5, ob ms47, if_pos ((mq_le hN (by omega)).2 h1)]
  · intro n acc k h1
    rw [f_X4_parts_L5, ob ms47, if_neg (fun c => absurd ((mq_le hN (by omega)).1 c) (by omega)), ob (mq0 (by omega)), nI_1]
    have hv : (if qv u k 0 = v then some (1 : Int32) else ((f_X4_quarrel0 u (nI k) (1 : Int32)).bind fun x27 => (if x27 = v then some (1 : Int32) else some (0 : Int32)))) = some (if qv u k 0 = v ∨ qv u k 1 = v then 1 else 0) := by
      by_cases c : qv u k 0 = v
      · rw [if_pos c, if_pos (Or.inl c)]
      · rw [if_neg c, ob (mq1 (by omega))]
        by_cases c1 : qv u k 1 = v
        · rw [if_pos c1, if_pos (Or.inr c1)]
        · rw [if_neg c1, if_neg (fun d => d.elim c c1)]
    rw [ob hv]
    have h7 : (if what = (4 : Int32) then ((f_X4_quarrel0 u (nI k) (0 : Int32)).bind fun x23 => (if x23 = v then some (1 : Int32) else some (0 : Int32))) else (if what = (5 : Int32) then ((f_X4_quarrel0 u (nI k) (1 : Int32)).bind fun x20 => (if x20 = v then some (1 : Int32) else some (0 : Int32))) else (if what = (6 : Int32) then ((f_X4_quarrel0 u (nI k) (6 : Int32)).bind fun x17 => (if x17 = v then some (1 : Int32) else some (0 : Int32))) else (if (if qv u k 0 = v ∨ qv u k 1 = v then (1 : Int32) else 0) = 0 then some (0 : Int32) else ((f_X4_quarrel0 u (nI k) (4 : Int32)).bind fun x14 => (if x14 = (2 : Int32) then some (1 : Int32) else some (0 : Int32))))))) = some (if w k then 1 else 0) := by
      have ew := hw k (by omega)
      by_cases d4 : what = 4
      · rw [if_pos d4] at ew
        rw [if_pos d4, ob (mq0 (by omega))]
        by_cases c : qv u k 0 = v
        · rw [if_pos c, if_pos (ew.2 c)]
        · rw [if_neg c, if_neg (mt ew.1 c)]
      rw [if_neg d4] at ew
      rw [if_neg d4]
      by_cases d5 : what = 5
      · rw [if_pos d5] at ew
        rw [if_pos d5, ob (mq1 (by omega))]
        by_cases c : qv u k 1 = v
        · rw [if_pos c, if_pos (ew.2 c)]
        · rw [if_neg c, if_neg (mt ew.1 c)]
      rw [if_neg d5] at ew
      rw [if_neg d5]
      by_cases d6 : what = 6
      · rw [if_pos d6] at ew
        rw [if_pos d6, ob (mq6 (by omega))]
        by_cases c : qv u k 6 = v
        · rw [if_pos c, if_pos (ew.2 c)]
        · rw [if_neg c, if_neg (mt ew.1 c)]
      rw [if_neg d6] at ew
      rw [if_neg d6]
      by_cases c : qv u k 0 = v ∨ qv u k 1 = v
      · rw [if_pos c, if_neg (by decide), ob (mq4 (by omega))]
        by_cases c4 : qv u k 4 = 2
        · rw [if_pos c4, if_pos (ew.2 ⟨c, c4⟩)]
        · rw [if_neg c4, if_neg (fun d => c4 (ew.1 d).2)]
      · rw [if_neg c, if_pos rfl, if_neg (fun d => c (ew.1 d).1)]
    rw [ob h7]
    by_cases c : w k = true
    · rw [if_pos c, if_neg (by decide), if_pos c]; rfl
    · rw [if_neg c, if_pos rfl, if_neg c, ob rfl, i_add0]
theorem second_e (hR : RT B t u) (hN : UN u np nq) (v : Int32) : ∃ r, f_X2_personsWithSecond t v = some r ∧ f_X4_secondOf u v = some r := by
  unfold f_X2_personsWithSecond f_X4_secondOf
  have hq := hN.1
  refine ⟨fd (fun k => decide (pv u k 2 = v)) gS 0 np 0, ?_, ?_⟩
  · rw [ob (fd_loop0 (F := f_X2_personsWithSecond_L4 t v) (w := fun k => decide (pv u k 2 = v)) (g := gS) (nq := np) (by omega) ?_ ?_ 0)]
    · intro n acc k h1 h2
      rw [f_X2_personsWithSecond_L4, if_pos ((np_le hR hN (by omega)).2 h1)]
    · intro n acc k h1
      rw [f_X2_personsWithSecond_L4, if_neg (fun c => absurd ((np_le hR hN (by omega)).1 c) (by omega)), ob (rdp2 hR (by omega)), nI_1]
      by_cases c : pv u k 2 = v
      · rw [if_pos c, if_pos (by simp [c])]
      · rw [if_neg c, if_neg (by simp [c])]
  · rw [ob (fd_loop0 (F := f_X4_secondOf_L4 u v) (w := fun k => decide (pv u k 2 = v)) (g := gS) (nq := np) (by omega) ?_ ?_ 0)]
    · intro n acc k h1 h2
      rw [f_X4_secondOf_L4, ob ms5, if_pos ((mp_le hN (by omega)).2 h1)]
    · intro n acc k h1
      rw [f_X4_secondOf_L4, ob ms5, if_neg (fun c => absurd ((mp_le hN (by omega)).1 c) (by omega)), ob (mp2 (by omega)), nI_1]
      by_cases c : pv u k 2 = v
      · rw [if_pos c, ob rfl, if_pos (by simp [c])]
      · rw [if_neg c, ob rfl, i_or0, if_neg (by simp [c])]
theorem sworn_e (hR : RT B t u) (hS : US u) (hN : UN u np nq) : ∃ r, f_X2_personsUnderOath t = some r ∧ f_X4_sworn u = some r := by
  unfold f_X2_personsUnderOath f_X4_sworn
  have hq := hN.1
  refine ⟨fd (fun k => decide (¬ pv u k 3 ≤ u 4 + 0)) gS 0 np 0, ?_, ?_⟩
  · rw [ob (fd_loop0 (F := f_X2_personsUnderOath_L4 t) (w := fun k => decide (¬ pv u k 3 ≤ u 4 + 0)) (g := gS) (nq := np) (by omega) ?_ ?_ 0)]
    · intro n acc k h1 h2
      rw [f_X2_personsUnderOath_L4, if_pos ((np_le hR hN (by omega)).2 h1)]
    · intro n acc k h1
      have pi := (hN.2.2.2.2.1 k h1).2.2.2
      have hu := under_iff (later := 0) hS pi.1 pi.2 (by decide) (by decide)
      rw [f_X2_personsUnderOath_L4, if_neg (fun c => absurd ((np_le hR hN (by omega)).1 c) (by omega)), ob (oathLeft_e hR (by omega)), nI_1]
      rw [ti_0, ← ti_0, ← ti_lt] at hu
      by_cases c : pv u k 3 ≤ u 4 + 0
      · have c2 := hu.1 c
        rw [if_pos (by rw [ti_le]; have := mt ti_lt.2 c2; omega), if_neg (dn c)]
      · have c2 : (0 : Int32) < (if (0 : Int32) < pv u k 3 - u 4 then pv u k 3 - u 4 else 0) := Classical.byContradiction (fun d => c (hu.2 d))
        rw [if_neg (by rw [ti_le]; have := ti_lt.1 c2; omega), if_pos (dp c)]
  · rw [ob (fd_loop0 (F := f_X4_sworn_L4 u) (w := fun k => decide (¬ pv u k 3 ≤ u 4 + 0)) (g := gS) (nq := np) (by omega) ?_ ?_ 0)]
    · intro n acc k h1 h2
      rw [f_X4_sworn_L4, ob ms5, if_pos ((mp_le hN (by omega)).2 h1)]
    · intro n acc k h1
      rw [f_X4_sworn_L4, ob ms5, if_neg (fun c => absurd ((mp_le hN (by omega)).1 c) (by omega)), ob (isUnderOath_e (by omega) 0), nI_1]
      by_cases c : pv u k 3 ≤ u 4 + 0
      · rw [if_pos c, if_pos rfl, ob rfl, i_or0, if_neg (dn c)]
      · rw [if_neg c, if_neg (by decide), ob rfl, if_pos (dp c)]
theorem qthat_e (hN : UN u np nq) (v : Int32) : f_X4_quarrelsThat u v = some (fd (fun k => decide (qv u k 4 = v)) gS 0 nq 0) := by
  unfold f_X4_quarrelsThat
  have hq := hN.2.1
  rw [ob (fd_loop0 (F := f_X4_quarrelsThat_L4 u v) (w := fun k => decide (qv u k 4 = v)) (g := gS) hq ?_ ?_ 0)]
  · intro n acc k h1 h2
    rw [f_X4_quarrelsThat_L4, ob ms47, if_pos ((mq_le hN (by omega)).2 h1)]
  · intro n acc k h1
    rw [f_X4_quarrelsThat_L4, ob ms47, if_neg (fun c => absurd ((mq_le hN (by omega)).1 c) (by omega)), ob (mq4 (by omega)), nI_1]
    by_cases c : qv u k 4 = v
    · rw [if_pos c, ob rfl, if_pos (by simp [c])]
    · rw [if_neg c, ob rfl, i_or0, if_neg (by simp [c])]
theorem open_e (hR : RT B t u) (hN : UN u np nq) : f_X2_openQuarrels t = some (fd (fun k => decide (qv u k 4 = 0)) gS 0 nq 0) := by
  unfold f_X2_openQuarrels
  have hq := hN.2.1
  rw [ob (fd_loop0 (F := f_X2_openQuarrels_L4 t) (w := fun k => decide (qv u k 4 = 0)) (g := gS) hq ?_ ?_ 0)]
  · intro n acc k h1 h2
    rw [f_X2_openQuarrels_L4, if_pos ((nq_le hR hN (by omega)).2 h1)]
  · intro n acc k h1
    rw [f_X2_openQuarrels_L4, if_neg (fun c => absurd ((nq_le hR hN (by omega)).1 c) (by omega)), ob (isOpen_e hR (by omega)), nI_1]
    by_cases c : qv u k 4 = 0
    · rw [if_pos c, if_neg (by decide), if_pos (by simp [c])]
    · rw [if_neg c, if_pos rfl, if_neg (by simp [c])]
theorem due_e (hR : RT B t u) (hS : US u) (hN : UN u np nq) : ∃ r, f_X2_dueQuarrels t = some r ∧ f_X4_due u = some r ∧ f_J6_bitCount_0f7a4 r = some (sz16 r) ∧ 0 ≤ sz16 r := by
  unfold f_X2_dueQuarrels f_X4_due
  have hq := hN.2.1
  have hch : ∀ k, ∃ v : Int32, k < nq → ∃ w, f_X2_waysOf t (nI k) = some w ∧ f_X2_whyNotDue t (nI k) w = some v ∧ f_X4_reason u (nI k) 0 = some v := by
    intro k
    by_cases hk : k < nq
    · obtain ⟨w, v, h1, h2, h3⟩ := reason_e hR hS hN hk
      exact ⟨v, fun _ => ⟨w, h1, h2, h3⟩⟩
    · exact ⟨0, fun c => absurd c hk⟩
  obtain ⟨V, hV⟩ := Classical.axiomOfChoice hch
  refine ⟨fd (fun k => decide (V k = 0)) gS 0 nq 0, ?_, ?_, bc_fd hq, by rw [sz_fd hq]; exact fd_pos hq⟩
  · rw [ob (fd_loop0 (F := f_X2_dueQuarrels_L4 t) (w := fun k => decide (V k = 0)) (g := gS) hq ?_ ?_ 0)]
    · intro n acc k h1 h2
      rw [f_X2_dueQuarrels_L4, if_pos ((nq_le hR hN (by omega)).2 h1)]
    · intro n acc k h1
      obtain ⟨w, h3, h4, h5⟩ := hV k h1
      rw [f_X2_dueQuarrels_L4, if_neg (fun c => absurd ((nq_le hR hN (by omega)).1 c) (by omega)), ob h3, ob h4, nI_1]
      by_cases c : V k = 0
      · rw [if_pos c, if_pos (by simp [c])]
      · rw [if_neg c, if_neg (by simp [c])]
  · rw [ob (fd_loop0 (F := f_X4_due_L4 u) (w := fun k => decide (V k = 0)) (g := gS) hq ?_ ?_ 0)]
    · intro n acc k h1 h2
      rw [f_X4_due_L4, ob ms47, if_pos ((mq_le hN (by omega)).2 h1)]
    · intro n acc k h1
      obtain ⟨w, h3, h4, h5⟩ := hV k h1
      rw [f_X4_due_L4, ob ms47, if_neg (fun c => absurd ((mq_le hN (by omega)).1 c) (by omega)), ob h5, nI_1]
      by_cases c : V k = 0
      · rw [if_pos c, ob rfl, if_pos (by simp [c])]
      · rw [if_neg c, ob rfl, i_or0, if_neg (by simp [c])]
end SF

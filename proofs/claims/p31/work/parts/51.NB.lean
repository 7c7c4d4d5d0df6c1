/-! how many, sums, sets -/
def cnt (w : Nat → Bool) : Nat → Nat
  | 0 => 0
  | n + 1 => cnt w n + (if w n then 1 else 0)
def sm (g : Nat → Nat) : Nat → Nat
  | 0 => 0
  | n + 1 => sm g n + g n
theorem fd_s {w : Nat → Bool} {g : Int32 → Nat → Int32} (n : Nat) (acc : Int32) : fd w g 0 (n + 1) acc = if w n then g (fd w g 0 n acc) n else fd w g 0 n acc := by
  rw [fd_add, fd, fd, Nat.zero_add]
theorem fd_cnt {w : Nat → Bool} : ∀ n, fd w gC 0 n 0 = nI (cnt w n) := by
  intro n
  induction n with
  | zero => exact nI_0.symm
  | succ n ih =>
    rw [fd_s, ih, cnt]
    by_cases c : w n = true
    · rw [if_pos c, if_pos c]; exact nI_1 _
    · rw [if_neg c, if_neg c]; rfl
theorem cnt_le (w : Nat → Bool) : ∀ n, cnt w n ≤ n := by
  intro n
  induction n with
  | zero => exact Nat.le_refl 0
  | succ n ih => rw [cnt]; split <;> omega
theorem cnt_mono {w w' : Nat → Bool} : ∀ n, (∀ k, k < n → w k = true → w' k = true) → cnt w n ≤ cnt w' n := by
  intro n
  induction n with
  | zero => intro _; exact Nat.le_refl 0
  | succ n ih =>
    intro h
    have h1 := ih (fun k hk => h k (by omega))
    rw [cnt, cnt]
    by_cases c : w n = true
    · rw [if_pos c, if_pos (h n (by omega) c)]; omega
    · rw [if_neg c]; split <;> omega
theorem cnt_ext {w w' : Nat → Bool} (n : Nat) (h : ∀ k, k < n → (w k = true ↔ w' k = true)) : cnt w n = cnt w' n :=
  Nat.le_antisymm (cnt_mono n (fun k hk c => (h k hk).1 c)) (cnt_mono n (fun k hk c => (h k hk).2 c))
theorem cnt_lt {w w' : Nat → Bool} {q : Nat} : ∀ n, (∀ k, k < n → w k = true → w' k = true) → q < n → w' q = true → ¬ w q = true → cnt w n < cnt w' n := by
  intro n
  induction n with
  | zero => intro _ h; omega
  | succ n ih =>
    intro h hq h1 h2
    rw [cnt, cnt]
    by_cases c : q = n
    · subst c
      have := cnt_mono q (fun k hk => h k (by omega))
      rw [if_pos h1, if_neg h2]; omega
    · have h3 := ih (fun k hk => h k (by omega)) (by omega) h1 h2
      by_cases c : w n = true
      · rw [if_pos c, if_pos (h n (by omega) c)]; omega
      · rw [if_neg c]; split <;> omega
theorem cnt_none {w : Nat → Bool} : ∀ n, (∀ k, k < n → ¬ w k = true) → cnt w n = 0 := by
  intro n
  induction n with
  | zero => intro _; rfl
  | succ n ih => intro h; rw [cnt, ih (fun k hk => h k (by omega)), if_neg (h n (by omega))]
theorem cnt_all {w : Nat → Bool} : ∀ n, (∀ k, k < n → w k = true) → cnt w n = n := by
  intro n
  induction n with
  | zero => intro _; rfl
  | succ n ih => intro h; rw [cnt, ih (fun k hk => h k (by omega)), if_pos (h n (by omega))]
theorem cnt_ex {w w' : Nat → Bool} : ∀ n, cnt w n < cnt w' n → ∃ k, k < n ∧ w' k = true ∧ ¬ w k = true := by
  intro n
  induction n with
  | zero => intro h; exact absurd h (Nat.lt_irrefl _)
  | succ n ih =>
    intro h
    rw [cnt, cnt] at h
    by_cases c : w' n = true
    · by_cases c2 : w n = true
      · rw [if_pos c, if_pos c2] at h
        obtain ⟨k, h1, h2⟩ := ih (by omega)
        exact ⟨k, by omega, h2⟩
      · exact ⟨n, Nat.lt_succ_self n, c, c2⟩
    · rw [if_neg c] at h
      obtain ⟨k, h1, h2⟩ := ih (by omega)
      exact ⟨k, by omega, h2⟩
/-- one more -/
theorem cnt_add1 {w w' : Nat → Bool} {q : Nat} : ∀ n, q < n → (∀ k, k < n → (w' k = true ↔ (w k = true ∨ k = q))) → ¬ w q = true → cnt w' n = cnt w n + 1 := by
  intro n
  induction n with
  | zero => intro h; omega
  | succ n ih =>
    intro hq h h2
    rw [cnt, cnt]
    by_cases c : q = n
    · subst c
      have hE : cnt w' q = cnt w q := cnt_ext q (fun k hk => (h k (by omega)).trans ⟨fun d => d.elim id (fun e => absurd e (by omega)), Or.inl⟩)
      rw [if_pos ((h q (by omega)).2 (Or.inr rfl)), if_neg h2, hE]
    · have h3 := ih (by omega) (fun k hk => h k (by omega)) h2
      by_cases d : w n = true
      · rw [if_pos d, if_pos ((h n (by omega)).2 (Or.inl d))]; omega
      · rw [if_neg d, if_neg (fun e => ((h n (by omega)).1 e).elim d (fun e => c e.symm))]; omega
/-- two that share nothing -/
theorem cnt_or {w w1 w2 : Nat → Bool} : ∀ n, (∀ k, k < n → (w k = true ↔ (w1 k = true ∨ w2 k = true))) → (∀ k, k < n → ¬ (w1 k = true ∧ w2 k = true)) → cnt w n = cnt w1 n + cnt w2 n := by
  intro n
  induction n with
  | zero => intro _ _; rfl
  | succ n ih =>
    intro h h2
    have h3 := ih (fun k hk => h k (by omega)) (fun k hk => h2 k (by omega))
    have h4 := h n (by omega)
    have h5 := h2 n (by omega)
    rw [cnt, cnt, cnt]
    by_cases c1 : w1 n = true
    · by_cases c2 : w2 n = true
      · exact absurd ⟨c1, c2⟩ h5
      · rw [if_pos (h4.2 (Or.inl c1)), if_pos c1, if_neg c2]; omega
    · by_cases c2 : w2 n = true
      · rw [if_pos (h4.2 (Or.inr c2)), if_neg c1, if_pos c2]; omega
      · rw [if_neg (fun e => (h4.1 e).elim c1 c2), if_neg c1, if_neg c2]; omega
theorem sm_ext {g g' : Nat → Nat} : ∀ n, (∀ k, k < n → g k = g' k) → sm g n = sm g' n := by
  intro n
  induction n with
  | zero => intro _; rfl
  | succ n ih => intro h; rw [sm, sm, ih (fun k hk => h k (by omega)), h n (by omega)]
theorem sm_add (g g' : Nat → Nat) : ∀ n, sm (fun k => g k + g' k) n = sm g n + sm g' n := by
  intro n
  induction n with
  | zero => rfl
  | succ n ih => rw [sm, sm, sm, ih]; omega
theorem sm_one (v : Nat) : ∀ p, sm (fun k => if v = k then 1 else 0) p = if v < p then 1 else 0 := by
  intro p
  induction p with
  | zero => rw [if_neg (Nat.not_lt_zero v)]; rfl
  | succ p ih =>
    rw [sm, ih]
    by_cases c : v = p
    · rw [if_pos c, if_neg (by omega), if_pos (by omega)]
    · rw [if_neg c]
      by_cases d : v < p
      · rw [if_pos d, if_pos (by omega)]
      · rw [if_neg d, if_neg (by omega)]
/-- counted twice -/
theorem sm_cnt (v : Nat → Nat) (p : Nat) : ∀ n, sm (fun k => cnt (fun q => decide (v q = k)) n) p = cnt (fun q => decide (v q < p)) n := by
  intro n
  induction n with
  | zero =>
    show sm (fun _ => 0) p = 0
    induction p with
    | zero => rfl
    | succ p ih => rw [sm, ih]
  | succ n ih =>
    have h1 : sm (fun k => cnt (fun q => decide (v q = k)) (n + 1)) p = sm (fun k => cnt (fun q => decide (v q = k)) n + (if v n = k then 1 else 0)) p := by
      refine sm_ext p (fun k _ => ?_)
      show cnt (fun q => decide (v q = k)) n + (if decide (v n = k) = true then 1 else 0) = _
      by_cases c : v n = k
      · rw [if_pos (decide_eq_true c), if_pos c]
      · rw [if_neg (fun d => c (of_decide_eq_true d)), if_neg c]
    rw [h1, sm_add (fun k => cnt (fun q => decide (v q = k)) n) (fun k => if v n = k then 1 else 0), ih, sm_one, cnt]
    by_cases c : v n < p
    · rw [if_pos c, if_pos (decide_eq_true c)]
    · rw [if_neg c, if_neg (fun d => c (of_decide_eq_true d))]
/-! sets -/
abbrev bt (k : Nat) : Int32 := (1 : Int32) <<< (nI k &&& 31)
theorem fd_or {w : Nat → Bool} (x : Int32) : ∀ (d k : Nat) (acc : Int32), fd w gS k d (acc ||| x) = fd w gS k d acc ||| x := by
  intro d
  induction d with
  | zero => intro k acc; rfl
  | succ d ih =>
    intro k acc
    rw [fd, fd]
    by_cases c : w k = true
    · rw [if_pos c, if_pos c]
      show fd w gS (k + 1) d (acc ||| x ||| bt k) = _
      rw [Int32.or_assoc, Int32.or_comm x (bt k), ← Int32.or_assoc, ih]
    · rw [if_neg c, if_neg c, ih]
theorem fd_add1 {w w' : Nat → Bool} {q : Nat} : ∀ (d k : Nat) (acc : Int32), k ≤ q → q < k + d → (∀ i, k ≤ i → i < k + d → (w' i = true ↔ (w i = true ∨ i = q))) → ¬ w q = true → fd w' gS k d acc = fd w gS k d acc ||| bt q := by
  intro d
  induction d with
  | zero => intro k acc h1 h2; omega
  | succ d ih =>
    intro k acc h1 h2 h3 h4
    rw [fd, fd]
    have h5 := h3 k (Nat.le_refl k) (by omega)
    by_cases c : k = q
    · subst c
      rw [if_pos (h5.2 (Or.inr rfl)), if_neg h4]
      show fd w' gS (k + 1) d (acc ||| bt k) = _
      rw [fd_or]
      refine congrArg (· ||| bt k) (fd_ext d (k + 1) acc (fun i hi1 hi2 => ?_))
      have h6 := h3 i (by omega) (by omega)
      rw [Bool.eq_iff_iff, h6]
      exact ⟨fun e => e.elim id (fun e => by omega), Or.inl⟩
    · have h7 := fun a => ih (k + 1) a (by omega) (by omega) (fun i hi1 hi2 => h3 i (by omega) (by omega)) h4
      by_cases d1 : w k = true
      · rw [if_pos d1, if_pos (h5.2 (Or.inl d1)), h7]
      · rw [if_neg d1, if_neg (fun e => (h5.1 e).elim d1 c), h7]
theorem or_if (b : Bool) (x : Int32) (k : Nat) : x ||| (if b then bt k else 0) = if b then gS x k else x := by
  cases b
  · exact Int32.or_zero
  · rfl
theorem add_if (b : Bool) (x : Int32) (k : Nat) : x + (if b then 1 else 0) = if b then gC x k else x := by
  cases b
  · exact Int32.add_zero x
  · rfl
theorem bit10 : ∀ b0 b1 b2 b3 b4 b5 b6 b7 b8 b9 : Bool, ∀ k : Fin 10, (([b0, b1, b2, b3, b4, b5, b6, b7, b8, b9] : List Bool).getD k.1 false = true) → ((sg b9 9 (sg b8 8 (sg b7 7 (sg b6 6 (sg b5 5 (sg b4 4 (sg b3 3 (sg b2 2 (sg b1 1 (sg b0 0 0))))))))) >>> (nI k.1 &&& 31)) &&& 1) = 1 := by decide +kernel
theorem fd_bit {w : Nat → Bool} {n k : Nat} (hn : n ≤ 10) (hk : k < n) (hw : w k = true) : ((fd w gS 0 n 0 >>> (nI k &&& 31)) &&& 1) = 1 := by
  have h10 : fd w gS 0 n 0 = fd (fun i => w i && decide (i < n)) gS 0 10 0 := by
    obtain ⟨r, hr⟩ : ∃ r, 10 = n + r := ⟨10 - n, by omega⟩
    rw [hr, fd_add, fd_none r _ _ (fun i h1 _ => by
      have : ¬ i < n := by omega
      simp [this])]
    exact fd_ext n 0 0 (fun i _ h2 => by
      have : i < n := by omega
      simp [this])
  rw [h10]
  obtain ⟨z, hz⟩ : ∃ z : Nat → Bool, z = fun i => w i && decide (i < n) := ⟨_, rfl⟩
  have hzk : z k = true := by rw [hz]; simp [hw, hk]
  rw [← hz]
  refine bit10 (z 0) (z 1) (z 2) (z 3) (z 4) (z 5) (z 6) (z 7) (z 8) (z 9) ⟨k, by omega⟩ ?_
  rcases (show k = 0 ∨ k = 1 ∨ k = 2 ∨ k = 3 ∨ k = 4 ∨ k = 5 ∨ k = 6 ∨ k = 7 ∨ k = 8 ∨ k = 9 by omega) with rfl | rfl | rfl | rfl | rfl | rfl | rfl | rfl | rfl | rfl <;> exact hzk
theorem bits_step {x acc : Int32} {n k : Nat} (hk : k < 16) : f_L_bits_L4 x (n + 1) acc (nI k) = f_L_bits_L4 x n (acc + ((x >>> (nI k &&& 31)) &&& 1)) (nI (k + 1)) := by
  rw [f_L_bits_L4, if_neg (by rw [show (16 : Int32) = nI 16 from rfl]; exact nI_ge hk (by decide)), nI_1]
theorem bits_e (x : Int32) : f_L_bits x = some (sz16 x) := by
  unfold f_L_bits
  rw [show (2000 : Nat) = 1983 + 1 + 1 + 1 + 1 + 1 + 1 + 1 + 1 + 1 + 1 + 1 + 1 + 1 + 1 + 1 + 1 + 1 from rfl]
  have h : f_L_bits_L4 x (1983 + 1 + 1 + 1 + 1 + 1 + 1 + 1 + 1 + 1 + 1 + 1 + 1 + 1 + 1 + 1 + 1 + 1) 0 (nI 0) = some (sz16 x) := by
    rw [bits_step (by decide), bits_step (by decide), bits_step (by decide), bits_step (by decide), bits_step (by decide), bits_step (by decide), bits_step (by decide), bits_step (by decide), bits_step (by decide), bits_step (by decide), bits_step (by decide), bits_step (by decide), bits_step (by decide), bits_step (by decide), bits_step (by decide), bits_step (by decide), f_L_bits_L4, if_pos (by decide)]
    rfl
  rw [nI_0] at h
  rw [ob h]

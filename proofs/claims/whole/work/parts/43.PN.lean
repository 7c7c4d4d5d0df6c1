/-! copies, the history -/
def it (f : MM → Nat → MM) (z : MM) : Nat → MM
  | 0 => z
  | k + 1 => f (it f z k) k
theorem it_loop {L : Nat → MM → Int32 → Option MM} {f : MM → Nat → MM} {N : Nat} (z : MM) (hN : N < 2000)
    (h0 : ∀ n z, L (n + 1) z (nI N) = some z) (h1 : ∀ n z k, k < N → L (n + 1) z (nI k) = L n (f z k) (nI (k + 1))) :
    ∀ (d k n : Nat), k + d = N → d < n → L n (it f z k) (nI k) = some (it f z N) := by
  intro d
  induction d with
  | zero =>
    intro k n h2 h3
    obtain ⟨n, rfl⟩ : ∃ n', n = n' + 1 := ⟨n - 1, by omega⟩
    obtain rfl : k = N := by omega
    exact h0 n _
  | succ d ih =>
    intro k n h2 h3
    obtain ⟨n, rfl⟩ : ∃ n', n = n' + 1 := ⟨n - 1, by omega⟩
    rw [h1 n _ k (by omega)]
    exact ih (k + 1) n (by omega) (by omega)
theorem it_loop0 {L : Nat → MM → Int32 → Option MM} {f : MM → Nat → MM} {N : Nat} (z : MM) (hN : N < 2000)
    (h0 : ∀ n z, L (n + 1) z (nI N) = some z) (h1 : ∀ n z k, k < N → L (n + 1) z (nI k) = L n (f z k) (nI (k + 1))) : L 2000 z 0 = some (it f z N) := by
  have h := it_loop z hN h0 h1 N 0 2000 (by omega) hN
  rw [nI_0] at h
  exact h
/-- a place by place copy -/
def cpy (g a : Nat → Int32) (D S N : Nat) : Nat → Int32 := fun j => if D ≤ j ∧ j < D + N then a (S + (j - D)) else g j
theorem cpy_0 {g a : Nat → Int32} {D S : Nat} : cpy g a D S 0 = g := by
  funext j
  show (if D ≤ j ∧ j < D + 0 then a (S + (j - D)) else g j) = g j
  rw [if_neg (by omega)]
theorem cpy_s {g a : Nat → Int32} {D S N : Nat} : upd (cpy g a D S N) (D + N) (a (S + N)) = cpy g a D S (N + 1) := by
  funext j
  show upd (cpy g a D S N) (D + N) (a (S + N)) j = (if D ≤ j ∧ j < D + (N + 1) then a (S + (j - D)) else g j)
  by_cases c : j = D + N
  · subst c
    rw [pk_us, if_pos (by omega)]
    exact congrArg a (by omega)
  · rw [pk_un c]
    show (if D ≤ j ∧ j < D + N then a (S + (j - D)) else g j) = _
    by_cases d : D ≤ j ∧ j < D + N
    · rw [if_pos d, if_pos (by omega)]
    · rw [if_neg d, if_neg (by omega)]
theorem cpy_in {g a : Nat → Int32} {D S N j : Nat} (h : D ≤ j) (h2 : j < D + N) : cpy g a D S N j = a (S + (j - D)) := if_pos ⟨h, h2⟩
theorem cpy_out {g a : Nat → Int32} {D S N j : Nat} (h : ¬ (D ≤ j ∧ j < D + N)) : cpy g a D S N j = g j := if_neg h
theorem le_181 {k : Nat} (hk : k < 181) : ¬ (181 : Int32) ≤ nI k := by rw [show (181 : Int32) = nI 181 from rfl]; exact nI_ge hk (by decide)
theorem putAside_e (z : MM) : f_X4_putAside z = some (M1 z (cpy z.2.1 z.1 0 0 181)) := by
  unfold f_X4_putAside
  have h : ∀ k, k ≤ 181 → it (fun z k => M1 z (upd z.2.1 k (z.1 k))) z k = M1 z (cpy z.2.1 z.1 0 0 k) := by
    intro k
    induction k with
    | zero => intro _; rw [cpy_0]; rfl
    | succ k ih =>
      intro hk
      rw [it, ih (by omega)]
      show M1 z (upd (cpy z.2.1 z.1 0 0 k) k (z.1 k)) = _
      have := cpy_s (g := z.2.1) (a := z.1) (D := 0) (S := 0) (N := k)
      rw [Nat.zero_add] at this
      rw [this]
  have hl := it_loop0 (L := f_X4_putAside_L2) (f := fun z k => M1 z (upd z.2.1 k (z.1 k))) (N := 181) z (by decide)
    (fun n z => by rw [f_X4_putAside_L2, if_pos (by decide)])
    (fun n z k hk => by rw [f_X4_putAside_L2, if_neg (le_181 hk), ob (x4_rd rfl hk (by decide)), ob (x4_wr rfl hk (by decide)), nI_1])
  rw [ob hl, h 181 (Nat.le_refl _)]
theorem L64_e (y : Int32) (z : MM) {n : Nat} (hn : n ≤ 5) (hz : z.2.2.2.1 = nI n) : f_X4_end_L64 y 2000 z 0 = some (M2 z (cpy z.2.2.1 z.2.1 (181 * n) 0 181)) := by
  have h : ∀ k, k ≤ 181 → it (fun z k => M2 z (upd z.2.2.1 (181 * n + k) (z.2.1 k))) z k = M2 z (cpy z.2.2.1 z.2.1 (181 * n) 0 k) := by
    intro k
    induction k with
    | zero => intro _; rw [cpy_0]; rfl
    | succ k ih =>
      intro hk
      rw [it, ih (by omega)]
      show M2 z (upd (cpy z.2.2.1 z.2.1 (181 * n) 0 k) (181 * n + k) (z.2.1 k)) = _
      have := cpy_s (g := z.2.2.1) (a := z.2.1) (D := 181 * n) (S := 0) (N := k)
      rw [Nat.zero_add] at this
      rw [this]
  have h2 : ∀ (d k m : Nat), k + d = 181 → d < m → f_X4_end_L64 y m (it (fun z k => M2 z (upd z.2.2.1 (181 * n + k) (z.2.1 k))) z k) (nI k) = some (it (fun z k => M2 z (upd z.2.2.1 (181 * n + k) (z.2.1 k))) z 181) := by
    intro d
    induction d with
    | zero =>
      intro k m h3 h4
      obtain ⟨m, rfl⟩ : ∃ n', m = n' + 1 := ⟨m - 1, by omega⟩
      obtain rfl : k = 181 := by omega
      rw [f_X4_end_L64, if_pos (by decide)]
    | succ d ih =>
      intro k m h3 h4
      obtain ⟨m, rfl⟩ : ∃ n', m = n' + 1 := ⟨m - 1, by omega⟩
      have hk : k < 181 := by omega
      have hkn : (it (fun z k => M2 z (upd z.2.2.1 (181 * n + k) (z.2.1 k))) z k).2.2.2.1 = nI n := by rw [h k (by omega)]; exact hz
      have hi := ih (k + 1) m (by omega) (by omega)
      rw [it] at hi
      rw [f_X4_end_L64, if_neg (le_181 hk), ob (x4_rd rfl hk (by decide)), hkn, show (181 : Int32) = nI 181 from rfl, nI_mul, nI_add, ob (x4_wr rfl (by omega) (by decide)), nI_1]
      exact hi
  have h3 := h2 181 0 2000 (by omega) (by omega)
  rw [nI_0, h 181 (Nat.le_refl _)] at h3
  exact h3
theorem L23_e (y : Int32) (z : MM) : f_X4_end_L23 y 2000 z 0 = some (M2 z (cpy z.2.2.1 z.2.2.1 0 181 905)) := by
  have h : ∀ k, k ≤ 905 → it (fun z k => M2 z (upd z.2.2.1 k (z.2.2.1 (181 + k)))) z k = M2 z (cpy z.2.2.1 z.2.2.1 0 181 k) := by
    intro k
    induction k with
    | zero => intro _; rw [cpy_0]; rfl
    | succ k ih =>
      intro hk
      rw [it, ih (by omega)]
      show M2 z (upd (cpy z.2.2.1 z.2.2.1 0 181 k) k (cpy z.2.2.1 z.2.2.1 0 181 k (181 + k))) = _
      rw [cpy_out (j := 181 + k) (by omega)]
      have := cpy_s (g := z.2.2.1) (a := z.2.2.1) (D := 0) (S := 181) (N := k)
      rw [Nat.zero_add] at this
      rw [this]
  have hl := it_loop0 (L := f_X4_end_L23 y) (f := fun z k => M2 z (upd z.2.2.1 k (z.2.2.1 (181 + k)))) (N := 905) z (by decide)
    (fun n z => by rw [f_X4_end_L23, if_pos (by decide)])
    (fun n z k hk => by rw [f_X4_end_L23, if_neg (by rw [show (905 : Int32) = nI 905 from rfl]; exact nI_ge hk (by decide)), show (181 : Int32) = nI 181 from rfl, nI_add, ob (x4_rd rfl (by omega) (by decide)), ob (x4_wr rfl (by omega) (by decide)), nI_1])
  rw [hl, h 905 (Nat.le_refl _)]
theorem undoL_e (z : MM) {n : Nat} (hn : n ≤ 5) (hz : z.2.2.2.1 = nI n) : f_X4_undo_L22 2000 z 0 = some (M0 z (cpy z.1 z.2.2.1 0 (181 * n) 181)) := by
  have h : ∀ k, k ≤ 181 → it (fun z k => M0 z (upd z.1 k (z.2.2.1 (181 * n + k)))) z k = M0 z (cpy z.1 z.2.2.1 0 (181 * n) k) := by
    intro k
    induction k with
    | zero => intro _; rw [cpy_0]; rfl
    | succ k ih =>
      intro hk
      rw [it, ih (by omega)]
      show M0 z (upd (cpy z.1 z.2.2.1 0 (181 * n) k) k (z.2.2.1 (181 * n + k))) = _
      have := cpy_s (g := z.1) (a := z.2.2.1) (D := 0) (S := 181 * n) (N := k)
      rw [Nat.zero_add] at this
      rw [this]
  have h2 : ∀ (d k m : Nat), k + d = 181 → d < m → f_X4_undo_L22 m (it (fun z k => M0 z (upd z.1 k (z.2.2.1 (181 * n + k)))) z k) (nI k) = some (it (fun z k => M0 z (upd z.1 k (z.2.2.1 (181 * n + k)))) z 181) := by
    intro d
    induction d with
    | zero =>
      intro k m h3 h4
      obtain ⟨m, rfl⟩ : ∃ n', m = n' + 1 := ⟨m - 1, by omega⟩
      obtain rfl : k = 181 := by omega
      rw [f_X4_undo_L22, if_pos (by decide)]
    | succ d ih =>
      intro k m h3 h4
      obtain ⟨m, rfl⟩ : ∃ n', m = n' + 1 := ⟨m - 1, by omega⟩
      have hk : k < 181 := by omega
      have hkn : (it (fun z k => M0 z (upd z.1 k (z.2.2.1 (181 * n + k)))) z k).2.2.2.1 = nI n := by rw [h k (by omega)]; exact hz
      have hi := ih (k + 1) m (by omega) (by omega)
      rw [it] at hi
      rw [f_X4_undo_L22, if_neg (le_181 hk), hkn, show (181 : Int32) = nI 181 from rfl, nI_mul, nI_add, ob (x4_rd rfl (by omega) (by decide)), ob (x4_wr rfl hk (by decide)), nI_1]
      exact hi
  have h3 := h2 181 0 2000 (by omega) (by omega)
  rw [nI_0, h 181 (Nat.le_refl _)] at h3
  exact h3
theorem saveL_e (z : MM) {n : Nat} (hn : n ≤ 1) : f_X4_save_L14 (nI n) 2000 z 0 = some (M4 z (cpy z.2.2.2.2.1 z.1 (181 * n) 0 181)) := by
  have h : ∀ k, k ≤ 181 → it (fun z k => M4 z (upd z.2.2.2.2.1 (181 * n + k) (z.1 k))) z k = M4 z (cpy z.2.2.2.2.1 z.1 (181 * n) 0 k) := by
    intro k
    induction k with
    | zero => intro _; rw [cpy_0]; rfl
    | succ k ih =>
      intro hk
      rw [it, ih (by omega)]
      show M4 z (upd (cpy z.2.2.2.2.1 z.1 (181 * n) 0 k) (181 * n + k) (z.1 k)) = _
      have := cpy_s (g := z.2.2.2.2.1) (a := z.1) (D := 181 * n) (S := 0) (N := k)
      rw [Nat.zero_add] at this
      rw [this]
  have hl := it_loop0 (L := f_X4_save_L14 (nI n)) (f := fun z k => M4 z (upd z.2.2.2.2.1 (181 * n + k) (z.1 k))) (N := 181) z (by decide)
    (fun m z => by rw [f_X4_save_L14, if_pos (by decide)])
    (fun m z k hk => by rw [f_X4_save_L14, if_neg (le_181 hk), ob (x4_rd rfl hk (by decide)), show (181 : Int32) = nI 181 from rfl, nI_mul, nI_add, ob (x4_wr rfl (by omega) (by decide)), nI_1])
  rw [hl, h 181 (Nat.le_refl _)]
theorem restoreL_e (z : MM) {n : Nat} (hn : n ≤ 1) : f_X4_restore_L30 (nI n) 2000 z 0 = some (M0 z (cpy z.1 z.2.2.2.2.1 0 (181 * n) 181)) := by
  have h : ∀ k, k ≤ 181 → it (fun z k => M0 z (upd z.1 k (z.2.2.2.2.1 (181 * n + k)))) z k = M0 z (cpy z.1 z.2.2.2.2.1 0 (181 * n) k) := by
    intro k
    induction k with
    | zero => intro _; rw [cpy_0]; rfl
    | succ k ih =>
      intro hk
      rw [it, ih (by omega)]
      show M0 z (upd (cpy z.1 z.2.2.2.2.1 0 (181 * n) k) k (z.2.2.2.2.1 (181 * n + k))) = _
      have := cpy_s (g := z.1) (a := z.2.2.2.2.1) (D := 0) (S := 181 * n) (N := k)
      rw [Nat.zero_add] at this
      rw [this]
  have hl := it_loop0 (L := f_X4_restore_L30 (nI n)) (f := fun z k => M0 z (upd z.1 k (z.2.2.2.2.1 (181 * n + k)))) (N := 181) z (by decide)
    (fun m z => by rw [f_X4_restore_L30, if_pos (by decide)])
    (fun m z k hk => by rw [f_X4_restore_L30, if_neg (le_181 hk), show (181 : Int32) = nI 181 from rfl, nI_mul, nI_add, ob (x4_rd rfl (by omega) (by decide)), ob (x4_wr rfl hk (by decide)), nI_1])
  rw [hl, h 181 (Nat.le_refl _)]
/-- a relation that looks at the first places alone -/
theorem RT_u {B : Nat} {t : TT} {u u' : Nat → Int32} (h : RT B t u) (hu : ∀ j, j < 181 → u' j = u j) : RT B t u' := by
  obtain ⟨h1, h2, h3, h4, h5, ne, e1, e2, e3, e4⟩ := h
  refine ⟨by rw [hu 4 (by decide)]; exact h1, by rw [hu 46 (by decide)]; exact h2, by rw [hu 5 (by decide)]; exact h3, by rw [hu 47 (by decide)]; exact h4, RC_cg h5 (fun j _ => rfl) (fun j hj _ _ _ _ => hu j (by omega)), ne, e1, e2, by rw [hu 144 (by decide)]; exact e3, fun r w hr hw => ?_⟩
  rw [hu _ (by omega)]
  exact e4 r w hr hw
theorem UI_u {u u' : Nat → Int32} (h : UI u) (hu : ∀ j, j < 181 → u' j = u j) : UI u' := by
  obtain ⟨hS, np, nq, hN⟩ := h
  exact ⟨US_cg hS (fun j hj => hu j (by omega)), np, nq, UN_cg hN (fun j _ hj _ => hu j (by omega))⟩
theorem become_e (t t2 : TT) : ∃ r, f_X2_become t t2 = some r ∧ ∀ B u, RT B t2 u → RT B r u := by
  refine ⟨_, rfl, fun B u h => ?_⟩
  obtain ⟨h1, h2, h3, h4, h5, ne, e1, e2, e3, e4⟩ := h
  have hc : ∀ j, j < 176 → va_cpy t2.2.2.2.2.2 t.2.2.2.2.2 0 0 176 j = t2.2.2.2.2.2 j := by
    intro j hj
    rw [pk_cpy_in (by omega) (by omega)]
    exact congrArg t2.2.2.2.2.2 (by omega)
  refine ⟨h1, h2, h3, h4, RC_cg h5 (fun j hj => hc j (by omega)) (fun j _ _ _ _ _ => rfl), ne, e1, e2, e3, fun r w hr hw => ?_⟩
  have hm : (ne - 1 - r) % 12 < 12 := Nat.mod_lt _ (by decide)
  exact (hc _ (by omega)).trans (e4 r w hr hw)
abbrev blk (f : Nat → Int32) (j : Nat) : Nat → Int32 := fun i => f (181 * j + i)
def HK (B : Nat) (hh : HH) (mm : MM) (o sz : Nat) : Prop := o < 7 ∧ sz ≤ 6 ∧ hh.1 = nI o ∧ hh.2.1 = nI sz ∧ mm.2.2.2.1 = nI sz ∧ ∀ j, j < sz → RT B (hh.2.2 ((o + j) % 7)) (blk mm.2.2.1 j) ∧ UI (blk mm.2.2.1 j)
theorem HK.mono {B B' : Nat} {hh : HH} {mm : MM} {o sz : Nat} (h : HK B hh mm o sz) (hb : B ≤ B') : HK B' hh mm o sz := ⟨h.1, h.2.1, h.2.2.1, h.2.2.2.1, h.2.2.2.2.1, fun j hj => ⟨(h.2.2.2.2.2 j hj).1.mono hb, (h.2.2.2.2.2 j hj).2⟩⟩
theorem stateAt_e {hh : HH} {o a : Nat} (h1 : hh.1 = nI o) (ho : o < 7) (ha : a < 7) : f_X0_stateAt hh (nI a) = some (nI ((o + a) % 7)) := by
  have hm : (o + a) % 7 < 7 := Nat.mod_lt _ (by decide)
  unfold f_X0_stateAt f_X0_placeOf
  rw [h1, nI_add, ob (fm7 (by omega)), ob rfl, if_neg (nI_pos (by omega)), if_neg (by rw [show (7 : Int32) = nI 7 from rfl]; exact nI_ge hm (by decide))]
  unfold inb
  rw [if_neg (nI_in hm (by decide))]
  rfl
theorem note_e {B : Nat} {hh : HH} {mm : MM} {o sz : Nat} {t : TT} (h : HK B hh mm o sz) : ∃ hh', f_X0_note hh t = some hh' ∧ HK B hh' mm o sz ∧ ∀ u, RT B t u → RT B (hh'.2.2 ((o + sz) % 7)) u := by
  obtain ⟨h1, h2, h3, h4, h5, h6⟩ := h
  have hm : (o + sz) % 7 < 7 := Nat.mod_lt _ (by decide)
  obtain ⟨r, r1, r2⟩ := become_e (hh.2.2 ((o + sz) % 7)) t
  refine ⟨HU hh ((o + sz) % 7) r, ?_, ⟨h1, h2, h3, h4, h5, fun j hj => ?_⟩, fun u hu => ?_⟩
  · unfold f_X0_note
    rw [h4, ob (stateAt_e h3 h1 (by omega))]
    have hp : (o + sz) % 7 = 0 ∨ (o + sz) % 7 = 1 ∨ (o + sz) % 7 = 2 ∨ (o + sz) % 7 = 3 ∨ (o + sz) % 7 = 4 ∨ (o + sz) % 7 = 5 ∨ (o + sz) % 7 = 6 := by omega
    rcases hp with hp | hp | hp | hp | hp | hp | hp <;> rw [hp] at r1 ⊢
    · rw [if_pos (by decide), ob r1]
    · rw [if_neg (by decide), if_pos (by decide), ob r1]
    · rw [if_neg (by decide), if_neg (by decide), if_pos (by decide), ob r1]
    · rw [if_neg (by decide), if_neg (by decide), if_neg (by decide), if_pos (by decide), ob r1]
    · rw [if_neg (by decide), if_neg (by decide), if_neg (by decide), if_neg (by decide), if_pos (by decide), ob r1]
    · rw [if_neg (by decide), if_neg (by decide), if_neg (by decide), if_neg (by decide), if_neg (by decide), if_pos (by decide), ob r1]
    · rw [if_neg (by decide), if_neg (by decide), if_neg (by decide), if_neg (by decide), if_neg (by decide), if_neg (by decide), if_pos (by decide), ob r1]
  · show RT B (if (o + j) % 7 = (o + sz) % 7 then r else hh.2.2 ((o + j) % 7)) _ ∧ _
    rw [if_neg (by omega)]
    exact h6 j hj
  · show RT B (if (o + sz) % 7 = (o + sz) % 7 then r else hh.2.2 ((o + sz) % 7)) u
    rw [if_pos rfl]
    exact r2 B u hu
abbrev IsE (r : Int32) : Prop := ¬ (0 ≤ r) ∧ ¬ r = -6
theorem isError_e (r : Int32) : f_X3_isError r = some (if IsE r then 1 else 0) := by
  unfold f_X3_isError
  by_cases c : 0 ≤ r
  · rw [if_pos c, if_neg (fun d => d.1 c)]
  · by_cases d : r = -6
    · rw [if_neg c, if_pos d, if_neg (fun e => e.2 d)]
    · rw [if_neg c, if_neg d, if_pos ⟨c, d⟩]
/-- the end of a change -/
theorem end_e {B : Nat} {hh : HH} {mm : MM} {o sz : Nat} (h : HK B hh mm o sz) (hp : ∀ u : Nat → Int32, (∀ j, j < 181 → u j = mm.2.1 j) → RT B (hh.2.2 ((o + sz) % 7)) u ∧ UI u) (r : Int32) :
    ∃ hh' mm' o' sz', f_X0_keepUnlessError hh r = some (r, hh') ∧ f_X4_end mm r = some (r, mm') ∧ HK B hh' mm' o' sz' ∧ mm'.1 = mm.1 ∧ mm'.2.2.2.2 = mm.2.2.2.2 := by
  obtain ⟨h1, h2, h3, h4, h5, h6⟩ := h
  unfold f_X0_keepUnlessError f_X4_end
  rw [ob (isError_e r)]
  by_cases c : IsE r
  · refine ⟨hh, mm, o, sz, by rw [if_pos c, if_neg n10], by rw [if_neg c.1, if_neg c.2], ⟨h1, h2, h3, h4, h5, h6⟩, rfl, rfl⟩
  · rw [if_neg c, if_pos rfl]
    by_cases d : sz = 6
    · subst d
      have hsh : (if mm.2.2.2.1 = (6 : Int32) then ((f_X4_end_L23 r 2000 mm (0 : Int32)).bind fun v16 => some (M3 v16 (v16.2.2.2.1 - (1 : Int32)))) else some mm) = some (M3 (M2 mm (cpy mm.2.2.1 mm.2.2.1 0 181 905)) (nI 5)) := by
        rw [if_pos (show mm.2.2.2.1 = 6 from h5), ob (L23_e r mm)]
        show some (M3 _ (mm.2.2.2.1 - 1)) = _
        rw [h5, nI_pred]
      have h64 := L64_e r (M3 (M2 mm (cpy mm.2.2.1 mm.2.2.1 0 181 905)) (nI 5)) (n := 5) (by decide) rfl
      have hx4 : ((if mm.2.2.2.1 = (6 : Int32) then ((f_X4_end_L23 r 2000 mm (0 : Int32)).bind fun v16 => some (M3 v16 (v16.2.2.2.1 - (1 : Int32)))) else some mm).bind fun v2 => ((f_X4_end_L64 r 2000 v2 (0 : Int32)).bind fun v8 => some (r, (M3 v8 (v8.2.2.2.1 + (1 : Int32)))))) = some (r, M3 (M2 mm (cpy (cpy mm.2.2.1 mm.2.2.1 0 181 905) mm.2.1 905 0 181)) (nI 6)) := by
        rw [ob hsh, ob h64]
        rfl
      refine ⟨H1 hh (nI ((o + 1) % 7)), M3 (M2 mm (cpy (cpy mm.2.2.1 mm.2.2.1 0 181 905) mm.2.1 905 0 181)) (nI 6), (o + 1) % 7, 6, ?_, ?_, ⟨Nat.mod_lt _ (by decide), Nat.le_refl 6, rfl, h4, rfl, fun j hj => ?_⟩, rfl, rfl⟩
      · rw [if_pos (by rw [h4]; decide)]
        unfold f_X0_placeOf
        rw [h3, nI_1, ob (fm7 (by omega)), ob rfl]
      · by_cases c0 : 0 ≤ r
        · rw [if_pos c0]; exact hx4
        · rw [if_neg c0, if_pos (Classical.byContradiction (fun e => c ⟨c0, e⟩))]; exact hx4
      · show RT B (hh.2.2 (((o + 1) % 7 + j) % 7)) (fun i => cpy (cpy mm.2.2.1 mm.2.2.1 0 181 905) mm.2.1 905 0 181 (181 * j + i)) ∧ UI (fun i => cpy (cpy mm.2.2.1 mm.2.2.1 0 181 905) mm.2.1 905 0 181 (181 * j + i))
        by_cases j5 : j = 5
        · subst j5
          rw [show ((o + 1) % 7 + 5) % 7 = (o + 6) % 7 from by omega]
          refine hp _ (fun i hi => ?_)
          show cpy _ _ 905 0 181 (181 * 5 + i) = _
          rw [cpy_in (by omega) (by omega)]
          exact congrArg mm.2.1 (by omega)
        · rw [show ((o + 1) % 7 + j) % 7 = (o + (j + 1)) % 7 from by omega]
          obtain ⟨q1, q2⟩ := h6 (j + 1) (by omega)
          have e : ∀ i, i < 181 → cpy (cpy mm.2.2.1 mm.2.2.1 0 181 905) mm.2.1 905 0 181 (181 * j + i) = mm.2.2.1 (181 * (j + 1) + i) := by
            intro i hi
            rw [cpy_out (by omega), cpy_in (by omega) (by omega)]
            exact congrArg mm.2.2.1 (by omega)
          exact ⟨RT_u q1 e, UI_u q2 e⟩
    · have hsz : sz ≤ 5 := by omega
      have hx4 : ((if mm.2.2.2.1 = (6 : Int32) then ((f_X4_end_L23 r 2000 mm (0 : Int32)).bind fun v16 => some (M3 v16 (v16.2.2.2.1 - (1 : Int32)))) else some mm).bind fun v2 => ((f_X4_end_L64 r 2000 v2 (0 : Int32)).bind fun v8 => some (r, (M3 v8 (v8.2.2.2.1 + (1 : Int32)))))) = some (r, M3 (M2 mm (cpy mm.2.2.1 mm.2.1 (181 * sz) 0 181)) (nI (sz + 1))) := by
        rw [if_neg (by rw [h5, show (6 : Int32) = nI 6 from rfl, nI_eq (by omega) (by decide)]; exact d), ob rfl, ob (L64_e r mm hsz h5)]
        show some (r, M3 _ (mm.2.2.2.1 + 1)) = _
        rw [h5, nI_1]
      refine ⟨H2 hh (nI (sz + 1)), M3 (M2 mm (cpy mm.2.2.1 mm.2.1 (181 * sz) 0 181)) (nI (sz + 1)), o, sz + 1, ?_, ?_, ⟨h1, by omega, h3, rfl, rfl, fun j hj => ?_⟩, rfl, rfl⟩
      · rw [if_neg (by rw [h4, show (6 : Int32) = nI 6 from rfl]; exact nI_ge (by omega) (by decide)), h4, nI_1]
      · by_cases c0 : 0 ≤ r
        · rw [if_pos c0]; exact hx4
        · rw [if_neg c0, if_pos (Classical.byContradiction (fun e => c ⟨c0, e⟩))]; exact hx4
      · show RT B (hh.2.2 ((o + j) % 7)) (fun i => cpy mm.2.2.1 mm.2.1 (181 * sz) 0 181 (181 * j + i)) ∧ UI (fun i => cpy mm.2.2.1 mm.2.1 (181 * sz) 0 181 (181 * j + i))
        by_cases js : j = sz
        · subst js
          refine hp _ (fun i hi => ?_)
          rw [cpy_in (by omega) (by omega)]
          exact congrArg mm.2.1 (by omega)
        · obtain ⟨q1, q2⟩ := h6 j (by omega)
          have e : ∀ i, i < 181 → cpy mm.2.2.1 mm.2.1 (181 * sz) 0 181 (181 * j + i) = mm.2.2.1 (181 * j + i) := by
            intro i hi
            rw [cpy_out (by omega)]
          exact ⟨RT_u q1 e, UI_u q2 e⟩

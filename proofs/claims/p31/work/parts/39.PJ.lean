/-! writes on both sides -/
theorem upd_comm {f : Nat → Int32} {a b : Nat} {x y : Int32} (h : a ≠ b) : upd (upd f a x) b y = upd (upd f b y) a x := by
  funext j
  by_cases c : j = b
  · subst c
    rw [pk_us, pk_un (Ne.symm h), pk_us]
  · rw [pk_un c]
    by_cases d : j = a
    · subst d
      rw [pk_us, pk_us]
    · rw [pk_un d, pk_un d, pk_un c]
theorem qp_lt {w : Nat} (h : w < 8) : qp w < 8 := by
  unfold qp
  split
  · omega
  · split <;> omega
theorem qp_inj {w w' : Nat} (h : qp w = qp w') : w = w' := by
  unfold qp at h
  by_cases a : w = 6
  · by_cases b : w' = 6
    · omega
    · rw [if_pos a, if_neg b] at h
      by_cases d : w' = 7
      · rw [if_pos d] at h; omega
      · rw [if_neg d] at h; omega
  · rw [if_neg a] at h
    by_cases b : w' = 6
    · rw [if_pos b] at h
      by_cases d : w = 7
      · rw [if_pos d] at h; omega
      · rw [if_neg d] at h; omega
    · rw [if_neg b] at h
      by_cases d : w = 7
      · by_cases d' : w' = 7
        · omega
        · rw [if_pos d, if_neg d'] at h; omega
      · rw [if_neg d] at h
        by_cases d' : w' = 7
        · rw [if_pos d'] at h; omega
        · rw [if_neg d'] at h; omega
theorem RC_q {g u : Nat → Int32} (h : RC g u) {w k : Nat} (hw : w < 8) (hk : k < 12) (v : Int32) : RC (upd g (44 + 12 * qp w + k) v) (upd u (48 + 8 * k + w) v) := by
  have hq := qp_lt hw
  refine ⟨fun j hj => ?_, fun w' k' hw' hk' => ?_, fun w' k' hw' hk' => ?_⟩
  · rw [pk_un (by omega), pk_un (by omega)]; exact h.1 j hj
  · rw [pk_un (by omega), pk_un (by omega)]; exact h.2.1 w' k' hw' hk'
  · by_cases e : w' = w ∧ k' = k
    · obtain ⟨rfl, rfl⟩ := e
      rw [pk_us, pk_us]
    · have hq' := qp_lt hw'
      rw [pk_un (fun c => e ⟨qp_inj (by omega), by omega⟩), pk_un (fun c => e ⟨by omega, by omega⟩)]
      exact h.2.2 w' k' hw' hk'
theorem RC_p {g u : Nat → Int32} (h : RC g u) {w k : Nat} (hw : w < 4) (hk : k < 10) (v : Int32) : RC (upd g (4 + 10 * w + k) v) (upd u (6 + 4 * k + w) v) := by
  refine ⟨fun j hj => ?_, fun w' k' hw' hk' => ?_, fun w' k' hw' hk' => ?_⟩
  · rw [pk_un (by omega), pk_un (by omega)]; exact h.1 j hj
  · by_cases e : w' = w ∧ k' = k
    · obtain ⟨rfl, rfl⟩ := e
      rw [pk_us, pk_us]
    · rw [pk_un (fun c => e ⟨by omega, by omega⟩), pk_un (fun c => e ⟨by omega, by omega⟩)]
      exact h.2.1 w' k' hw' hk'
  · have hq' := qp_lt hw'
    rw [pk_un (by omega), pk_un (by omega)]; exact h.2.2 w' k' hw' hk'
theorem RC_s {g u : Nat → Int32} (h : RC g u) {j : Nat} (hj : j < 4) (v : Int32) : RC (upd g j v) (upd u j v) := by
  refine ⟨fun j' hj' => ?_, fun w' k' hw' hk' => ?_, fun w' k' hw' hk' => ?_⟩
  · by_cases e : j' = j
    · subst e; rw [pk_us, pk_us]
    · rw [pk_un e, pk_un e]; exact h.1 j' hj'
  · rw [pk_un (by omega), pk_un (by omega)]; exact h.2.1 w' k' hw' hk'
  · have hq' := qp_lt hw'
    rw [pk_un (by omega), pk_un (by omega)]; exact h.2.2 w' k' hw' hk'
theorem RC_cg {g u g' u' : Nat → Int32} (h : RC g u) (hg : ∀ j, j < 140 → g' j = g j) (hu : ∀ j, j < 144 → j ≠ 4 → j ≠ 5 → j ≠ 46 → j ≠ 47 → u' j = u j) : RC g' u' := by
  refine ⟨fun j hj => ?_, fun w k hw hk => ?_, fun w k hw hk => ?_⟩
  · rw [hg _ (by omega), hu _ (by omega) (by omega) (by omega) (by omega) (by omega)]; exact h.1 j hj
  · rw [hg _ (by omega), hu _ (by omega) (by omega) (by omega) (by omega) (by omega)]; exact h.2.1 w k hw hk
  · have hq := qp_lt hw
    rw [hg _ (by omega), hu _ (by omega) (by omega) (by omega) (by omega) (by omega)]; exact h.2.2 w k hw hk
theorem EV.cg {B : Nat} {t t' : TT} {u u' : Nat → Int32} (h : EV B t u) (he : t'.2.2.2.2.1 = t.2.2.2.2.1) (hg : ∀ j, 140 ≤ j → t'.2.2.2.2.2 j = t.2.2.2.2.2 j) (hu : ∀ j, 144 ≤ j → u' j = u j) : EV B t' u' := by
  obtain ⟨ne, h1, h2, h3, h4⟩ := h
  refine ⟨ne, h1, he.trans h2, (hu 144 (by decide)).trans h3, fun r w hr hw => ?_⟩
  rw [hg _ (by omega), hu _ (by omega)]
  exact h4 r w hr hw
section SJ
variable {B : Nat} {t : TT} {u : Nat → Int32} {np nq : Nat}
theorem x2_wr {r k : Nat} {a v : Int32} (ha : a = nI r) (h : r + k < 176) : f_X2_write t a (nI k) v = some (T5 t (upd t.2.2.2.2.2 (r + k) v)) := by
  subst ha
  unfold f_X2_write
  rw [nI_add, if_neg (nI_pos (by omega)), show (176 : Int32) = nI 176 from rfl, if_neg (nI_ge h (by decide)), x4_wr rfl h (by decide)]
  rfl
theorem RT_q (hR : RT B t u) {w k : Nat} (hw : w < 8) (hk : k < 12) (v : Int32) : RT B (T5 t (upd t.2.2.2.2.2 (44 + 12 * qp w + k) v)) (upd u (48 + 8 * k + w) v) := by
  have hq := qp_lt hw
  refine ⟨?_, ?_, ?_, ?_, RC_q hR.2.2.2.2.1 hw hk v, hR.2.2.2.2.2.cg rfl (fun j hj => pk_un (by omega)) (fun j hj => pk_un (by omega))⟩
  · rw [pk_un (by omega)]; exact hR.1
  · rw [pk_un (by omega)]; exact hR.2.1
  · rw [pk_un (by omega)]; exact hR.2.2.1
  · rw [pk_un (by omega)]; exact hR.2.2.2.1
theorem RT_p (hR : RT B t u) {w k : Nat} (hw : w < 4) (hk : k < 10) (v : Int32) : RT B (T5 t (upd t.2.2.2.2.2 (4 + 10 * w + k) v)) (upd u (6 + 4 * k + w) v) := by
  refine ⟨?_, ?_, ?_, ?_, RC_p hR.2.2.2.2.1 hw hk v, hR.2.2.2.2.2.cg rfl (fun j hj => pk_un (by omega)) (fun j hj => pk_un (by omega))⟩
  · rw [pk_un (by omega)]; exact hR.1
  · rw [pk_un (by omega)]; exact hR.2.1
  · rw [pk_un (by omega)]; exact hR.2.2.1
  · rw [pk_un (by omega)]; exact hR.2.2.2.1
theorem RT_s (hR : RT B t u) {j : Nat} (hj : j < 4) (v : Int32) : RT B (T5 t (upd t.2.2.2.2.2 j v)) (upd u j v) := by
  refine ⟨?_, ?_, ?_, ?_, RC_s hR.2.2.2.2.1 hj v, hR.2.2.2.2.2.cg rfl (fun j hj => pk_un (by omega)) (fun j hj => pk_un (by omega))⟩
  · rw [pk_un (by omega)]; exact hR.1
  · rw [pk_un (by omega)]; exact hR.2.1
  · rw [pk_un (by omega)]; exact hR.2.2.1
  · rw [pk_un (by omega)]; exact hR.2.2.2.1
theorem RT_hour (hR : RT B t u) (v : Int32) : RT B (T0 t v) (upd u 4 v) := by
  refine ⟨?_, ?_, ?_, ?_, RC_cg hR.2.2.2.2.1 (fun j hj => rfl) (fun j h1 h2 h3 h4 h5 => pk_un h2), hR.2.2.2.2.2.cg rfl (fun j hj => rfl) (fun j hj => pk_un (by omega))⟩
  · rw [pk_us]; rfl
  · rw [pk_un (by omega)]; exact hR.2.1
  · rw [pk_un (by omega)]; exact hR.2.2.1
  · rw [pk_un (by omega)]; exact hR.2.2.2.1
theorem RT_allowed (hR : RT B t u) (v : Int32) : RT B (T1 t v) (upd u 46 v) := by
  refine ⟨?_, ?_, ?_, ?_, RC_cg hR.2.2.2.2.1 (fun j hj => rfl) (fun j h1 h2 h3 h4 h5 => pk_un h4), hR.2.2.2.2.2.cg rfl (fun j hj => rfl) (fun j hj => pk_un (by omega))⟩
  · rw [pk_un (by omega)]; exact hR.1
  · rw [pk_us]; rfl
  · rw [pk_un (by omega)]; exact hR.2.2.1
  · rw [pk_un (by omega)]; exact hR.2.2.2.1
theorem RT_persons (hR : RT B t u) (v : Int32) : RT B (T2 t v) (upd u 5 v) := by
  refine ⟨?_, ?_, ?_, ?_, RC_cg hR.2.2.2.2.1 (fun j hj => rfl) (fun j h1 h2 h3 h4 h5 => pk_un h3), hR.2.2.2.2.2.cg rfl (fun j hj => rfl) (fun j hj => pk_un (by omega))⟩
  · rw [pk_un (by omega)]; exact hR.1
  · rw [pk_un (by omega)]; exact hR.2.1
  · rw [pk_us]; rfl
  · rw [pk_un (by omega)]; exact hR.2.2.2.1
theorem RT_quarrels (hR : RT B t u) (v : Int32) : RT B (T3 t v) (upd u 47 v) := by
  refine ⟨?_, ?_, ?_, ?_, RC_cg hR.2.2.2.2.1 (fun j hj => rfl) (fun j h1 h2 h3 h4 h5 => pk_un h5), hR.2.2.2.2.2.cg rfl (fun j hj => rfl) (fun j hj => pk_un (by omega))⟩
  · rw [pk_un (by omega)]; exact hR.1
  · rw [pk_un (by omega)]; exact hR.2.1
  · rw [pk_un (by omega)]; exact hR.2.2.1
  · rw [pk_us]; rfl
theorem x2_wq (hR : RT B t u) {k : Nat} (w : Nat) {a : Int32} (ha : a = nI (44 + 12 * qp w)) (hk : k < 12) (hw : w < 8) (v : Int32) : ∃ t', f_X2_write t a (nI k) v = some t' ∧ RT B t' (upd u (48 + 8 * k + w) v) := by
  have hq := qp_lt hw
  exact ⟨_, x2_wr ha (by omega), RT_q hR hw hk v⟩
theorem x2_wp (hR : RT B t u) {k : Nat} (w : Nat) {a : Int32} (ha : a = nI (4 + 10 * w)) (hk : k < 10) (hw : w < 4) (v : Int32) : ∃ t', f_X2_write t a (nI k) v = some t' ∧ RT B t' (upd u (6 + 4 * k + w) v) :=
  ⟨_, x2_wr ha (by omega), RT_p hR hw hk v⟩
theorem x2_ws (hR : RT B t u) {j : Nat} (hj : j < 4) (v : Int32) : ∃ t', f_X2_write t 0 (nI j) v = some t' ∧ RT B t' (upd u j v) := by
  have h := x2_wr (t := t) (r := 0) (k := j) (a := 0) (v := v) rfl (by omega)
  rw [Nat.zero_add] at h
  exact ⟨_, h, RT_s hR hj v⟩
/-- what a number may be in a field of a person, of a quarrel -/
def PW (np w : Nat) (v : Int32) : Prop := (w = 0 → 0 ≤ v.toInt ∧ v.toInt ≤ 9) ∧ (w = 1 → 0 ≤ v.toInt ∧ v.toInt ≤ 9) ∧ (w = 2 → v = -6 ∨ ∃ j, j < np ∧ v = nI j) ∧ (w = 3 → 0 ≤ v.toInt ∧ v.toInt ≤ 10199)
def QFw (w : Nat) (v : Int32) : Prop := 2 ≤ w ∧ (w = 2 → 1 ≤ v.toInt ∧ v.toInt ≤ 9) ∧ (w = 3 → 0 ≤ v.toInt ∧ v.toInt ≤ 9999) ∧ (w = 7 → 0 ≤ v.toInt ∧ v.toInt ≤ 9999)
theorem pv_u {k k' w w' : Nat} {v : Int32} (hw : w < 4) (hw' : w' < 4) : pv (upd u (6 + 4 * k + w) v) k' w' = if k' = k ∧ w' = w then v else pv u k' w' := by
  show upd u (6 + 4 * k + w) v (6 + 4 * k' + w') = _
  by_cases c : k' = k ∧ w' = w
  · obtain ⟨rfl, rfl⟩ := c
    rw [pk_us, if_pos ⟨rfl, rfl⟩]
  · rw [pk_un (fun d => c ⟨by omega, by omega⟩), if_neg c]
theorem qv_u {k k' w w' : Nat} {v : Int32} (hw : w < 8) (hw' : w' < 8) : qv (upd u (48 + 8 * k + w) v) k' w' = if k' = k ∧ w' = w then v else qv u k' w' := by
  show upd u (48 + 8 * k + w) v (48 + 8 * k' + w') = _
  by_cases c : k' = k ∧ w' = w
  · obtain ⟨rfl, rfl⟩ := c
    rw [pk_us, if_pos ⟨rfl, rfl⟩]
  · rw [pk_un (fun d => c ⟨by omega, by omega⟩), if_neg c]
theorem PI_u {k k' w : Nat} {v : Int32} (h : PI u np k') (hw : w < 4) (hv : k' = k → PW np w v) : PI (upd u (6 + 4 * k + w) v) np k' := by
  unfold PI
  rw [pv_u hw (by decide), pv_u hw (by decide), pv_u hw (by decide), pv_u hw (by decide)]
  refine ⟨?_, ?_, ?_, ?_⟩
  · split
    · next c => exact (hv c.1).1 c.2.symm
    · exact h.1
  · split
    · next c => exact (hv c.1).2.1 c.2.symm
    · exact h.2.1
  · split
    · next c => exact (hv c.1).2.2.1 c.2.symm
    · exact h.2.2.1
  · split
    · next c => exact (hv c.1).2.2.2 c.2.symm
    · exact h.2.2.2
theorem QI_u {k k' w : Nat} {v : Int32} (h : QI u np k') (hw : w < 8) (hv : k' = k → QFw w v) : QI (upd u (48 + 8 * k + w) v) np k' := by
  unfold QI
  rw [qv_u hw (by decide), qv_u hw (by decide), qv_u hw (by decide), qv_u hw (by decide), qv_u hw (by decide)]
  refine ⟨?_, ?_, ?_, ?_⟩
  · rw [if_neg (fun c => by have := (hv c.1).1; omega), if_neg (fun c => by have := (hv c.1).1; omega)]
    exact h.1
  · split
    · next c => exact (hv c.1).2.1 c.2.symm
    · exact h.2.1
  · split
    · next c => exact (hv c.1).2.2.1 c.2.symm
    · exact h.2.2.1
  · split
    · next c => exact (hv c.1).2.2.2 c.2.symm
    · exact h.2.2.2
theorem PI_cg {u' : Nat → Int32} {np' k : Nat} (h : PI u np k) (hn : np ≤ np') (hu : ∀ w, w < 4 → pv u' k w = pv u k w) : PI u' np' k := by
  unfold PI
  rw [hu 0 (by decide), hu 1 (by decide), hu 2 (by decide), hu 3 (by decide)]
  refine ⟨h.1, h.2.1, ?_, h.2.2.2⟩
  rcases h.2.2.1 with c | ⟨j, hj, c⟩
  · exact Or.inl c
  · exact Or.inr ⟨j, by omega, c⟩
theorem QI_cg {u' : Nat → Int32} {np' k : Nat} (h : QI u np k) (hn : np ≤ np') (hu : ∀ w, w < 8 → qv u' k w = qv u k w) : QI u' np' k := by
  unfold QI
  rw [hu 0 (by decide), hu 1 (by decide), hu 2 (by decide), hu 3 (by decide), hu 7 (by decide)]
  obtain ⟨⟨a, b, h1, h2, h3⟩, h4⟩ := h
  exact ⟨⟨a, b, by omega, by omega, h3⟩, h4⟩
theorem UN_p {k w : Nat} {v : Int32} (h : UN u np nq) (hk : k < 10) (hw : w < 4) (hv : k < np → PW np w v) : UN (upd u (6 + 4 * k + w) v) np nq := by
  refine ⟨h.1, h.2.1, ?_, ?_, fun k' hk' => PI_u (h.2.2.2.2.1 k' hk') hw (fun c => hv (by omega)), fun k' hk' => QI_cg (h.2.2.2.2.2 k' hk') (Nat.le_refl np) (fun w' hw' => pk_un (by omega))⟩
  · rw [pk_un (by omega)]; exact h.2.2.1
  · rw [pk_un (by omega)]; exact h.2.2.2.1
theorem UN_q {k w : Nat} {v : Int32} (h : UN u np nq) (hk : k < 12) (hw : w < 8) (hv : k < nq → QFw w v) : UN (upd u (48 + 8 * k + w) v) np nq := by
  refine ⟨h.1, h.2.1, ?_, ?_, fun k' hk' => PI_cg (h.2.2.2.2.1 k' hk') (Nat.le_refl np) (fun w' hw' => pk_un (by have := h.1; omega)), fun k' hk' => QI_u (h.2.2.2.2.2 k' hk') hw (fun c => hv (by omega))⟩
  · rw [pk_un (by omega)]; exact h.2.2.1
  · rw [pk_un (by omega)]; exact h.2.2.2.1
theorem UN_cg {u' : Nat → Int32} (h : UN u np nq) (hu : ∀ j, 5 ≤ j → j < 144 → j ≠ 46 → u' j = u j) : UN u' np nq := by
  have hp := h.1
  have hq := h.2.1
  refine ⟨h.1, h.2.1, (hu 5 (by decide) (by decide) (by decide)).trans h.2.2.1, (hu 47 (by decide) (by decide) (by decide)).trans h.2.2.2.1, fun k' hk' => PI_cg (h.2.2.2.2.1 k' hk') (Nat.le_refl np) (fun w' hw' => hu _ (by omega) (by omega) (by omega)), fun k' hk' => QI_cg (h.2.2.2.2.2 k' hk') (Nat.le_refl np) (fun w' hw' => hu _ (by omega) (by omega) (by omega))⟩
theorem US_cg {u' : Nat → Int32} (h : US u) (hu : ∀ j, j < 5 ∨ j = 46 → u' j = u j) : US u' := by
  unfold US
  rw [hu 0 (by omega), hu 1 (by omega), hu 2 (by omega), hu 3 (by omega), hu 4 (by omega), hu 46 (by omega)]
  exact h
theorem US_u {n : Nat} {v : Int32} (h : US u) (hn : 5 ≤ n) (hm : n ≠ 46) : US (upd u n v) := US_cg h (fun j hj => pk_un (by omega))
end SJ

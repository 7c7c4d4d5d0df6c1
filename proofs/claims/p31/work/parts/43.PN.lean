/-! copies, the history -/
/-- a relation that looks at the first places alone -/
theorem RT_u {B : Nat} {t : TT} {u u' : Nat → Int32} (h : RT B t u) (hu : ∀ j, j < 181 → u' j = u j) : RT B t u' := by
  obtain ⟨h1, h2, h3, h4, h5, ne, e1, e2, e3, e4⟩ := h
  refine ⟨by rw [hu 4 (by decide)]; exact h1, by rw [hu 46 (by decide)]; exact h2, by rw [hu 5 (by decide)]; exact h3, by rw [hu 47 (by decide)]; exact h4, RC_cg h5 (fun j _ => rfl) (fun j hj _ _ _ _ => hu j (by omega)), ne, e1, e2, by rw [hu 144 (by decide)]; exact e3, fun r w hr hw => ?_⟩
  rw [hu _ (by omega)]
  exact e4 r w hr hw
theorem UI_u {u u' : Nat → Int32} (h : UI u) (hu : ∀ j, j < 181 → u' j = u j) : UI u' := by
  obtain ⟨hS, np, nq, hN⟩ := h
  exact ⟨US_cg hS (fun j hj => hu j (by omega)), np, nq, UN_cg hN (fun j _ hj _ => hu j (by omega))⟩
theorem become_e (t t2 : TT) : ∃ r, f_X2_become t t2 = some r ∧ ∀ B u, RT B t2 u → RT B r u := by
  refine ⟨_, rfl, fun B u h => ?_⟩
  obtain ⟨h1, h2, h3, h4, h5, ne, e1, e2, e3, e4⟩ := h
  have hc : ∀ j, j < 176 → va_cpy t2.2.2.2.2.2 t.2.2.2.2.2 0 0 176 j = t2.2.2.2.2.2 j := by
    intro j hj
    rw [pk_cpy_in (by omega) (by omega)]
    exact congrArg t2.2.2.2.2.2 (by omega)
  refine ⟨h1, h2, h3, h4, RC_cg h5 (fun j hj => hc j (by omega)) (fun j _ _ _ _ _ => rfl), ne, e1, e2, e3, fun r w hr hw => ?_⟩
  have hm : (ne - 1 - r) % 12 < 12 := Nat.mod_lt _ (by decide)
  exact (hc _ (by omega)).trans (e4 r w hr hw)
theorem stateAt_e {hh : HH} {o a : Nat} (h1 : hh.1 = nI o) (ho : o < 7) (ha : a < 7) : f_X0_stateAt hh (nI a) = some (nI ((o + a) % 7)) := by
  have hm : (o + a) % 7 < 7 := Nat.mod_lt _ (by decide)
  unfold f_X0_stateAt f_X0_placeOf
  rw [h1, nI_add, ob (fm7 (by omega)), ob rfl, if_neg (nI_pos (by omega)), if_neg (by rw [show (7 : Int32) = nI 7 from rfl]; exact nI_ge hm (by decide))]
  unfold inb
  rw [if_neg (nI_in hm (by decide))]
  rfl
abbrev IsE (r : Int32) : Prop := ¬ (0 ≤ r) ∧ ¬ r = -6
theorem isError_e (r : Int32) : f_X3_isError r = some (if IsE r then 1 else 0) := by
  unfold f_X3_isError
  by_cases c : 0 ≤ r
  · rw [if_pos c, if_neg (fun d => d.1 c)]
  · by_cases d : r = -6
    · rw [if_neg c, if_pos d, if_neg (fun e => e.2 d)]
    · rw [if_neg c, if_neg d, if_pos ⟨c, d⟩]

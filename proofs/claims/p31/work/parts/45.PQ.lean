/-! set, undo -/
theorem fm_m1 : ∀ o, o < 7 → f_J9_floorMod_7cf53 (nI o + -1) 7 = some (nI ((o + 6) % 7)) := by decide +kernel
theorem goBack_0 {hh : HH} {o : Nat} (t : TT) (h1 : hh.1 = nI o) (ho : o < 7) (hz : hh.2.1 = nI 0) : f_X0_goBack hh t = some (0, hh, t) := by
  have hm : (o + 6) % 7 < 7 := Nat.mod_lt _ (by decide)
  unfold f_X0_goBack f_X0_stateAt f_X0_placeOf
  rw [h1, hz, show (nI 0 : Int32) - 1 = -1 from by decide, ob (fm_m1 o ho), ob rfl, if_neg (nI_pos (by omega)), if_neg (by rw [show (7 : Int32) = nI 7 from rfl]; exact nI_ge hm (by decide))]
  unfold inb
  rw [if_neg (nI_in hm (by decide)), ob rfl, ob rfl]
  have hp : (o + 6) % 7 = 0 ∨ (o + 6) % 7 = 1 ∨ (o + 6) % 7 = 2 ∨ (o + 6) % 7 = 3 ∨ (o + 6) % 7 = 4 ∨ (o + 6) % 7 = 5 ∨ (o + 6) % 7 = 6 := by omega
  have z0 : (nI 0 : Int32) = 0 := nI_0
  rcases hp with hp | hp | hp | hp | hp | hp | hp <;> rw [hp]
  · rw [if_pos (by decide), if_pos z0]
  · rw [if_neg (by decide), if_pos (by decide), if_pos z0]
  · rw [if_neg (by decide), if_neg (by decide), if_pos (by decide), if_pos z0]
  · rw [if_neg (by decide), if_neg (by decide), if_neg (by decide), if_pos (by decide), if_pos z0]
  · rw [if_neg (by decide), if_neg (by decide), if_neg (by decide), if_neg (by decide), if_pos (by decide), if_pos z0]
  · rw [if_neg (by decide), if_neg (by decide), if_neg (by decide), if_neg (by decide), if_neg (by decide), if_pos (by decide), if_pos z0]
  · rw [if_neg (by decide), if_neg (by decide), if_neg (by decide), if_neg (by decide), if_neg (by decide), if_neg (by decide), if_pos (by decide), if_pos z0]
theorem goBack_s {hh : HH} {o sz : Nat} (t : TT) (h1 : hh.1 = nI o) (ho : o < 7) (hz : hh.2.1 = nI (sz + 1)) (hs : sz ≤ 5) : ∃ t', f_X0_goBack hh t = some (1, H2 hh (nI sz), t') ∧ ∀ B u, RT B (hh.2.2 ((o + sz) % 7)) u → RT B t' u := by
  have hm : (o + sz) % 7 < 7 := Nat.mod_lt _ (by decide)
  obtain ⟨r, r1, r2⟩ := become_e t (hh.2.2 ((o + sz) % 7))
  refine ⟨r, ?_, r2⟩
  unfold f_X0_goBack
  have z0 : ¬ (nI (sz + 1) : Int32) = 0 := nI_ne0 (by omega) (by omega)
  rw [hz, nI_pred, ob (stateAt_e h1 ho (by omega))]
  have hp : (o + sz) % 7 = 0 ∨ (o + sz) % 7 = 1 ∨ (o + sz) % 7 = 2 ∨ (o + sz) % 7 = 3 ∨ (o + sz) % 7 = 4 ∨ (o + sz) % 7 = 5 ∨ (o + sz) % 7 = 6 := by omega
  rcases hp with hp | hp | hp | hp | hp | hp | hp <;> rw [hp] at r1 ⊢
  · rw [if_pos (by decide), if_neg z0, ob r1]
  · rw [if_neg (by decide), if_pos (by decide), if_neg z0, ob r1]
  · rw [if_neg (by decide), if_neg (by decide), if_pos (by decide), if_neg z0, ob r1]
  · rw [if_neg (by decide), if_neg (by decide), if_neg (by decide), if_pos (by decide), if_neg z0, ob r1]
  · rw [if_neg (by decide), if_neg (by decide), if_neg (by decide), if_neg (by decide), if_pos (by decide), if_neg z0, ob r1]
  · rw [if_neg (by decide), if_neg (by decide), if_neg (by decide), if_neg (by decide), if_neg (by decide), if_pos (by decide), if_neg z0, ob r1]
  · rw [if_neg (by decide), if_neg (by decide), if_neg (by decide), if_neg (by decide), if_neg (by decide), if_neg (by decide), if_pos (by decide), if_neg z0, ob r1]
theorem iw_0 (t : TT) (v : Int32) : ∃ t', f_X2_write t 0 0 v = some t' := ⟨_, x2_wr (r := 0) (k := 0) rfl (by decide)⟩
theorem iw_1 (t : TT) (v : Int32) : ∃ t', f_X2_write t 0 1 v = some t' := ⟨_, x2_wr (r := 0) (k := 1) rfl (by decide)⟩
theorem iw_2 (t : TT) (v : Int32) : ∃ t', f_X2_write t 0 2 v = some t' := ⟨_, x2_wr (r := 0) (k := 2) rfl (by decide)⟩
theorem iw_3 (t : TT) (v : Int32) : ∃ t', f_X2_write t 0 3 v = some t' := ⟨_, x2_wr (r := 0) (k := 3) rfl (by decide)⟩
theorem init2_e : ∃ t0, f_X2_init = some t0 := by
  unfold f_X2_init
  obtain ⟨t1, h1⟩ := iw_0 ((0, 31, 0, 0, 0, fun _ => 0) : TT) 12
  obtain ⟨t2, h2⟩ := iw_1 t1 24
  obtain ⟨t3, h3⟩ := iw_2 t2 72
  obtain ⟨t4, h4⟩ := iw_3 t3 100
  rw [ob h1, ob h2, ob h3, ob h4]
  exact ⟨_, rfl⟩

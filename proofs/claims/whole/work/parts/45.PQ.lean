/-! set, undo, save, restore, wipe -/
theorem set_lo : ∀ n, n < 4 → (if nI n = 0 then some (1 : Int32) else (if nI n = (2 : Int32) then some (1 : Int32) else some (0 : Int32))) = some (lowB n) := by decide +kernel
theorem set_hi : ∀ n, n < 4 → (if nI n = 0 then some (48 : Int32) else (if nI n = (1 : Int32) then some (99 : Int32) else (if nI n = (2 : Int32) then some (200 : Int32) else some (400 : Int32)))) = some (highB n) := by decide +kernel
theorem op_set {B : Nat} {t : TT} {u : Nat → Int32} {np nq : Nat} (hR : RT B t u) (hS : US u) (hN : UN u np nq) (a b : Int32) :
    (f_X2_changeSetting t a b = some (-2, t) ∧ ∀ mm : MM, f_X4_set mm a b = some (-2, mm)) ∨
    (∃ n t', n < 4 ∧ a = nI n ∧ f_X2_changeSetting t a b = some (u n, t') ∧ RT B t' (upd u n b) ∧ UI (upd u n b) ∧ ∀ mm : MM, f_X4_set mm a b = ((f_X4_putAside mm).bind fun x9 => ((rd x9.1 181 a).bind fun x11 => ((wr x9.1 181 a b).bind fun g13 => ((f_X4_end (M0 x9 g13) x11).bind fun x15 => some (x15.1, x15.2)))))) := by
  unfold f_X2_changeSetting f_X4_set
  have h4 : (nI 4 - 1 : Int32) = 3 := by decide
  have e4 : (4 : Int32) = nI 4 := rfl
  rcases in_nI (a := a) (n := 4) (by decide) with ⟨n, hn, rfl, h1, h2, h3⟩ | ⟨h1, h3⟩
  · rw [h4] at h3
    rw [if_neg h1, e4, if_neg h2, if_pos (nI_lt hn (by decide)), ob (x4_rd rfl hn (by decide)), ob (x4_rd rfl hn (by decide))]
    by_cases c1 : b < lowB n
    · refine Or.inl ⟨by rw [if_pos c1], fun mm => ?_⟩
      rw [ob (set_lo n hn), ob (set_hi n hn), ob h3, if_neg n10, in_e, if_pos (Or.inl c1)]
      rfl
    · by_cases c2 : b ≤ highB n
      · have c3 : ¬ (b < lowB n ∨ highB n < b) := fun d => d.elim c1 (fun e => by
          have d1 := ti_lt.1 e
          have d2 := ti_le.1 c2
          omega)
        obtain ⟨t', w1, w2⟩ := x2_ws hR hn b
        refine Or.inr ⟨n, t', hn, rfl, ?_, w2, ?_, fun mm => ?_⟩
        · rw [if_neg c1, if_pos c2, ob (x2_s hR rfl hn), ob w1]
        · have d1 := mt ti_lt.2 c1
          have d2 := ti_le.1 c2
          refine ⟨?_, np, nq, UN_cg hN (fun j hj _ _ => pk_un (by omega))⟩
          have hn4 : n = 0 ∨ n = 1 ∨ n = 2 ∨ n = 3 := by omega
          unfold US
          rcases hn4 with rfl | rfl | rfl | rfl
          · rw [show (lowB 0).toInt = 1 from by decide] at d1
            rw [show (highB 0).toInt = 48 from by decide] at d2
            rw [pk_us, pk_un (by decide), pk_un (by decide), pk_un (by decide), pk_un (by decide), pk_un (by decide)]
            exact ⟨by omega, hS.2⟩
          · rw [show (lowB 1).toInt = 0 from by decide] at d1
            rw [show (highB 1).toInt = 99 from by decide] at d2
            rw [pk_un (by decide), pk_us, pk_un (by decide), pk_un (by decide), pk_un (by decide), pk_un (by decide)]
            exact ⟨hS.1, by omega, hS.2.2⟩
          · rw [show (lowB 2).toInt = 1 from by decide] at d1
            rw [show (highB 2).toInt = 200 from by decide] at d2
            rw [pk_un (by decide), pk_un (by decide), pk_us, pk_un (by decide), pk_un (by decide), pk_un (by decide)]
            exact ⟨hS.1, hS.2.1, by omega, hS.2.2.2⟩
          · rw [show (lowB 3).toInt = 0 from by decide] at d1
            rw [show (highB 3).toInt = 400 from by decide] at d2
            rw [pk_un (by decide), pk_un (by decide), pk_un (by decide), pk_us, pk_un (by decide), pk_un (by decide)]
            exact ⟨hS.1, hS.2.1, hS.2.2.1, by omega, hS.2.2.2.2⟩
        · rw [ob (set_lo n hn), ob (set_hi n hn), ob h3, if_neg n10, in_e, if_neg c3, ob rfl, if_neg n10]
      · refine Or.inl ⟨by rw [if_neg c1, if_neg c2], fun mm => ?_⟩
        rw [ob (set_lo n hn), ob (set_hi n hn), ob h3, if_neg n10, in_e, if_pos (Or.inr (by have := mt ti_le.2 c2; rw [ti_lt]; omega))]
        rfl
  · rw [h4] at h3
    refine Or.inl ⟨?_, fun mm => ?_⟩
    · by_cases c : a < 0
      · rw [if_pos c]
      · rw [if_neg c, e4, if_pos (h1.resolve_left c)]
    · obtain ⟨v1, e1⟩ : ∃ v1, (if a = 0 then some (1 : Int32) else (if a = (2 : Int32) then some (1 : Int32) else some (0 : Int32))) = some v1 := by
        split
        · exact ⟨_, rfl⟩
        · split <;> exact ⟨_, rfl⟩
      obtain ⟨v2, e2⟩ : ∃ v2, (if a = 0 then some (48 : Int32) else (if a = (1 : Int32) then some (99 : Int32) else (if a = (2 : Int32) then some (200 : Int32) else some (400 : Int32)))) = some v2 := by
        split
        · exact ⟨_, rfl⟩
        · split
          · exact ⟨_, rfl⟩
          · split <;> exact ⟨_, rfl⟩
      rw [ob e1, ob e2, ob h3, if_pos rfl]
theorem J_set : St_set JJ := by
  intro k t hh pp s0 s1 mm a0 a1 hk h
  obtain ⟨_, h1, ⟨hS, np, nq, hN⟩, ⟨o, sz, h3⟩, h4, h5, h6⟩ := id h
  unfold f_X3_set
  rcases op_set h1 hS hN a0 a1 with ⟨o1, o2⟩ | ⟨n, t', hn, rfl, o1, o2, o3, o4⟩
  · obtain ⟨hh', n1, n2, n3⟩ := note_e (t := t) h3
    have hE : IsE (-2) := by decide
    have hkp : f_X0_keepUnlessError hh' (-2) = some (-2, hh') := by
      unfold f_X0_keepUnlessError
      rw [ob (isError_e (-2)), if_pos hE, if_neg n10]
    refine ⟨(-2, t, hh'), (-2, mm), by rw [ob n1, ob o1, ob hkp], o2 mm, rfl, hk, h1.mono (by omega), ⟨hS, np, nq, hN⟩, ⟨o, sz, n2.mono (by omega)⟩, h4, h5.mono (by omega), h6.mono (by omega)⟩
  · obtain ⟨hh', mm', n1, n2, n3, n4, n5, n6⟩ := noted h1 ⟨hS, np, nq, hN⟩ h3
    have n5' : mm'.2.2.2.2 = mm.2.2.2.2 := congrArg (fun z => z.2.2) n5
    obtain ⟨hh2, mm2, o', sz', q1, q2, q3, q4, q5⟩ := end_e (HK_row n3 (upd mm.1 n a1)) n6 (mm.1 n)
    refine ⟨(mm.1 n, t', hh2), (mm.1 n, mm2), ?_, ?_, rfl, hk, ?_, ?_, ⟨o', sz', q3.mono (by omega)⟩, ?_, ?_, ?_⟩
    · rw [ob n1, ob o1, ob q1]
    · rw [o4 mm, ob n2, n4, ob (x4_rd rfl (by omega) (by decide)), ob (x4_wr rfl (by omega) (by decide)), ob q2]
    · show RT _ t' mm2.1
      rw [q4]
      exact o2.mono (by omega)
    · show UI mm2.1
      rw [q4]
      exact o3
    · exact h4.cg (q5.trans n5')
    · exact (h5.cg (q5.trans n5')).mono (by omega)
    · exact (h6.cg (q5.trans n5')).mono (by omega)
theorem fm_m1 : ∀ o, o < 7 → f_J9_floorMod_7cf53 (nI o + -1) 7 = some (nI ((o + 6) % 7)) := by decide +kernel
theorem goBack_0 {hh : HH} {o : Nat} (t : TT) (h1 : hh.1 = nI o) (ho : o < 7) (hz : hh.2.1 = nI 0) : f_X0_goBack hh t = some (0, hh, t) := by
  have hm : (o + 6) % 7 < 7 := Nat.mod_lt _ (by decide)
  unfold f_X0_goBack f_X0_stateAt f_X0_placeOf
  rw [h1, hz, show (nI 0 : Int32) - 1 = -1 from by decide, ob (fm_m1 o ho), ob rfl, if_neg (nI_pos (by omega)), if_neg (by rw [show (7 : Int32) = nI 7 from rfl]; exact nI_ge hm (by decide))]
  unfold inb
  rw [if_neg (nI_in hm (by decide)), ob rfl, ob rfl]
  have hp : (o + 6) % 7 = 0 ∨ (o + 6) % 7 = 1 ∨ (o + 6) % 7 = 2 ∨ (o + 6) % 7 = 3 ∨ (o + 6) % 7 = 4 ∨ (o + 6) % 7 = 5 ∨ (o + 6) % 7 = 6 := by omega
  have z0 : (nI 0 : Int32) = 0 := nI_0
  rcases hp with hp | hp | hp | hp | hp | hp | hp <;> rw [hp]
  · rw [if_pos (by decide), if_pos z0]
  · rw [if_neg (by decide), if_pos (by decide), if_pos z0]
  · rw [if_neg (by decide), if_neg (by decide), if_pos (by decide), if_pos z0]
  · rw [if_neg (by decide), if_neg (by decide), if_neg (by decide), if_pos (by decide), if_pos z0]
  · rw [if_neg (by decide), if_neg (by decide), if_neg (by decide), if_neg (by decide), if_pos (by decide), if_pos z0]
  · rw [if_neg (by decide), if_neg (by decide), if_neg (by decide), if_neg (by decide), if_neg (by decide), if_pos (by decide), if_pos z0]
  · rw [if_neg (by decide), if_neg (by decide), if_neg (by decide), if_neg (by decide), if_neg (by decide), if_neg (by decide), if_pos (by decide), if_pos z0]
theorem goBack_s {hh : HH} {o sz : Nat} (t : TT) (h1 : hh.1 = nI o) (ho : o < 7) (hz : hh.2.1 = nI (sz + 1)) (hs : sz ≤ 5) : ∃ t', f_X0_goBack hh t = some (1, H2 hh (nI sz), t') ∧ ∀ B u, RT B (hh.2.2 ((o + sz) % 7)) u → RT B t' u := by
  have hm : (o + sz) % 7 < 7 := Nat.mod_lt _ (by decide)
  obtain ⟨r, r1, r2⟩ := become_e t (hh.2.2 ((o + sz) % 7))
  refine ⟨r, ?_, r2⟩
  unfold f_X0_goBack
  have z0 : ¬ (nI (sz + 1) : Int32) = 0 := nI_ne0 (by omega) (by omega)
  rw [hz, nI_pred, ob (stateAt_e h1 ho (by omega))]
  have hp : (o + sz) % 7 = 0 ∨ (o + sz) % 7 = 1 ∨ (o + sz) % 7 = 2 ∨ (o + sz) % 7 = 3 ∨ (o + sz) % 7 = 4 ∨ (o + sz) % 7 = 5 ∨ (o + sz) % 7 = 6 := by omega
  rcases hp with hp | hp | hp | hp | hp | hp | hp <;> rw [hp] at r1 ⊢
  · rw [if_pos (by decide), if_neg z0, ob r1]
  · rw [if_neg (by decide), if_pos (by decide), if_neg z0, ob r1]
  · rw [if_neg (by decide), if_neg (by decide), if_pos (by decide), if_neg z0, ob r1]
  · rw [if_neg (by decide), if_neg (by decide), if_neg (by decide), if_pos (by decide), if_neg z0, ob r1]
  · rw [if_neg (by decide), if_neg (by decide), if_neg (by decide), if_neg (by decide), if_pos (by decide), if_neg z0, ob r1]
  · rw [if_neg (by decide), if_neg (by decide), if_neg (by decide), if_neg (by decide), if_neg (by decide), if_pos (by decide), if_neg z0, ob r1]
  · rw [if_neg (by decide), if_neg (by decide), if_neg (by decide), if_neg (by decide), if_neg (by decide), if_neg (by decide), if_pos (by decide), if_neg z0, ob r1]
theorem J_undo : St_undo JJ := by
  intro k t hh pp s0 s1 mm hk h
  obtain ⟨_, h1, h2, ⟨o, sz, ho, hsz, e1, e2, e3, e4⟩, h4, h5, h6⟩ := id h
  unfold f_X3_undo f_X4_undo
  cases sz with
  | zero =>
    refine ⟨(-5, t, hh), (-5, mm), ?_, ?_, rfl, JJ_none hk h⟩
    · rw [ob (goBack_0 t e1 ho e2), if_pos rfl]
    · rw [if_pos (e3.trans nI_0)]
  | succ sz =>
    obtain ⟨t', g1, g2⟩ := goBack_s t e1 ho e2 (by omega)
    have hu := undoL_e (M3 mm (nI sz)) (n := sz) (by omega) rfl
    have hx : ∀ j, j < 181 → cpy mm.1 mm.2.2.1 0 (181 * sz) 181 j = blk mm.2.2.1 sz j := fun j hj => by
      rw [cpy_in (by omega) (by omega)]
      exact congrArg mm.2.2.1 (by omega)
    obtain ⟨q1, q2⟩ := e4 sz (by omega)
    refine ⟨(nI sz, t', H2 hh (nI sz)), (nI sz, M0 (M3 mm (nI sz)) (cpy mm.1 mm.2.2.1 0 (181 * sz) 181)), ?_, ?_, rfl, hk, ?_, ?_, ⟨o, sz, ho, by omega, e1, rfl, rfl, fun j hj => ?_⟩, h4, h5.mono (by omega), h6.mono (by omega)⟩
    · rw [ob g1, if_neg n10]
      rfl
    · rw [if_neg (by rw [e3]; exact nI_ne0 (by omega) (by omega)), e3, nI_pred, ob hu]
      rfl
    · exact (g2 _ _ (RT_u q1 hx)).mono (by omega)
    · exact UI_u q2 hx
    · exact ⟨(e4 j (by omega)).1.mono (by omega), (e4 j (by omega)).2⟩
theorem iw_0 (t : TT) (v : Int32) : ∃ t', f_X2_write t 0 0 v = some t' := ⟨_, x2_wr (r := 0) (k := 0) rfl (by decide)⟩
theorem iw_1 (t : TT) (v : Int32) : ∃ t', f_X2_write t 0 1 v = some t' := ⟨_, x2_wr (r := 0) (k := 1) rfl (by decide)⟩
theorem iw_2 (t : TT) (v : Int32) : ∃ t', f_X2_write t 0 2 v = some t' := ⟨_, x2_wr (r := 0) (k := 2) rfl (by decide)⟩
theorem iw_3 (t : TT) (v : Int32) : ∃ t', f_X2_write t 0 3 v = some t' := ⟨_, x2_wr (r := 0) (k := 3) rfl (by decide)⟩
theorem init2_e : ∃ t0, f_X2_init = some t0 := by
  unfold f_X2_init
  obtain ⟨t1, h1⟩ := iw_0 ((0, 31, 0, 0, 0, fun _ => 0) : TT) 12
  obtain ⟨t2, h2⟩ := iw_1 t1 24
  obtain ⟨t3, h3⟩ := iw_2 t2 72
  obtain ⟨t4, h4⟩ := iw_3 t3 100
  rw [ob h1, ob h2, ob h3, ob h4]
  exact ⟨_, rfl⟩
theorem wrz_1 {f : Nat → Int32} {n : Nat} (h : n < 2) : wrz f 2 (nI n) 1 = some (upd f n 1) := by
  unfold wrz
  rw [if_neg (nI_in h (by decide)), nI_clamp (by omega)]
  rfl
theorem x4_save_e (mm : MM) {n : Nat} (hn : n ≤ 1) : f_X4_save mm (nI n) = some (mm.1 47, M5 (M4 mm (cpy mm.2.2.2.2.1 mm.1 (181 * n) 0 181)) (upd mm.2.2.2.2.2.1 n 1)) := by
  unfold f_X4_save
  have hin : f_X4_in (nI n) 0 1 = some 1 := by
    have : n = 0 ∨ n = 1 := by omega
    rcases this with rfl | rfl <;> decide +kernel
  rw [ob hin, if_neg n10, ob (saveL_e mm hn)]
  show ((wrz mm.2.2.2.2.2.1 2 (nI n) 1).bind fun g11 => _) = _
  rw [ob (wrz_1 (by omega))]
  show ((rd mm.1 181 47).bind fun x13 => _) = _
  rw [ob ms47]
theorem J_save : St_save JJ := by
  intro k t hh pp s0 s1 mm a0 hk h
  obtain ⟨_, h1, h2, ⟨o, sz, h3⟩, h4, h5, h6⟩ := id h
  unfold f_X3_save
  have far : ∀ (n : Nat), n ≤ 1 → ∀ j, j ≤ 1 → j ≠ n → ∀ x, SR (100 * k) x mm j → SR (100 * (k + 1)) x (M5 (M4 mm (cpy mm.2.2.2.2.1 mm.1 (181 * n) 0 181)) (upd mm.2.2.2.2.2.1 n 1)) j := by
    intro n hn j hj hne x hx
    have e : ∀ i, i < 181 → cpy mm.2.2.2.2.1 mm.1 (181 * n) 0 181 (181 * j + i) = mm.2.2.2.2.1 (181 * j + i) := fun i hi => cpy_out (by omega)
    cases x with
    | none =>
      show upd mm.2.2.2.2.2.1 n 1 j = 0
      rw [pk_un hne]; exact hx
    | some v =>
      refine ⟨?_, (RT_u hx.2.1 e).mono (by omega), UI_u hx.2.2 e⟩
      show upd mm.2.2.2.2.2.1 n 1 j = 1
      rw [pk_un hne]; exact hx.1
  have near : ∀ (n : Nat), n ≤ 1 → ∀ v, (∀ B u, RT B t u → RT B v u) → SR (100 * (k + 1)) (some v) (M5 (M4 mm (cpy mm.2.2.2.2.1 mm.1 (181 * n) 0 181)) (upd mm.2.2.2.2.2.1 n 1)) n := by
    intro n hn v hv
    have e : ∀ i, i < 181 → cpy mm.2.2.2.2.1 mm.1 (181 * n) 0 181 (181 * n + i) = mm.1 i := fun i hi => by
      rw [cpy_in (by omega) (by omega)]
      exact congrArg mm.1 (by omega)
    exact ⟨pk_us, (hv _ _ (RT_u h1 e)).mono (by omega), UI_u h2 e⟩
  by_cases c0 : a0 = 0
  · subst c0
    cases s0 with
    | none =>
      obtain ⟨t0, h0⟩ := init2_e
      obtain ⟨v, v1, v2⟩ := become_e t0 t
      refine ⟨(t.2.2.2.1, some v, s1), (mm.1 47, _), ?_, x4_save_e mm (n := 0) (by decide), h1.2.2.2.1, hk, h1.mono (by omega), h2, ⟨o, sz, HK.mono (B := 100 * k) h3 (by omega)⟩, h4, near 0 (by decide) v v2, far 0 (by decide) 1 (by decide) (by decide) s1 h6⟩
      rw [if_pos rfl]
      show (f_X2_init.bind fun u => (f_X2_become u t).bind fun v => some (t.2.2.2.1, some v, s1)) = _
      rw [ob h0, ob v1]
    | some v0 =>
      obtain ⟨v, v1, v2⟩ := become_e v0 t
      refine ⟨(t.2.2.2.1, some v, s1), (mm.1 47, _), ?_, x4_save_e mm (n := 0) (by decide), h1.2.2.2.1, hk, h1.mono (by omega), h2, ⟨o, sz, HK.mono (B := 100 * k) h3 (by omega)⟩, h4, near 0 (by decide) v v2, far 0 (by decide) 1 (by decide) (by decide) s1 h6⟩
      rw [if_pos rfl]
      show ((f_X2_become v0 t).bind fun v => some (t.2.2.2.1, some v, s1)) = _
      rw [ob v1]
  · by_cases c1 : a0 = 1
    · subst c1
      cases s1 with
      | none =>
        obtain ⟨t0, h0⟩ := init2_e
        obtain ⟨v, v1, v2⟩ := become_e t0 t
        refine ⟨(t.2.2.2.1, s0, some v), (mm.1 47, _), ?_, x4_save_e mm (n := 1) (by decide), h1.2.2.2.1, hk, h1.mono (by omega), h2, ⟨o, sz, HK.mono (B := 100 * k) h3 (by omega)⟩, h4, far 1 (by decide) 0 (by decide) (by decide) s0 h5, near 1 (by decide) v v2⟩
        rw [if_neg c0, if_pos rfl]
        show (f_X2_init.bind fun u => (f_X2_become u t).bind fun v => some (t.2.2.2.1, s0, some v)) = _
        rw [ob h0, ob v1]
      | some v0 =>
        obtain ⟨v, v1, v2⟩ := become_e v0 t
        refine ⟨(t.2.2.2.1, s0, some v), (mm.1 47, _), ?_, x4_save_e mm (n := 1) (by decide), h1.2.2.2.1, hk, h1.mono (by omega), h2, ⟨o, sz, HK.mono (B := 100 * k) h3 (by omega)⟩, h4, far 1 (by decide) 0 (by decide) (by decide) s0 h5, near 1 (by decide) v v2⟩
        rw [if_neg c0, if_pos rfl]
        show ((f_X2_become v0 t).bind fun v => some (t.2.2.2.1, s0, some v)) = _
        rw [ob v1]
    · have h2' : (nI 2 - 1 : Int32) = 1 := by decide
      rcases in_nI (a := a0) (n := 2) (by decide) with ⟨n, hn, rfl, g1, g2, g3⟩ | ⟨g1, g3⟩
      · exfalso
        have : n = 0 ∨ n = 1 := by omega
        rcases this with rfl | rfl
        · exact c0 nI_0
        · exact c1 rfl
      · rw [h2'] at g3
        refine ⟨(-2, s0, s1), (-2, mm), ?_, ?_, rfl, JJ_none hk h⟩
        · rw [if_neg c0, if_neg c1]
          unfold f_X3_isSlot
          by_cases c : a0 < 0
          · rw [if_pos c, ob rfl, if_pos rfl]
          · rw [if_neg c, show (2 : Int32) = nI 2 from rfl, if_pos (g1.resolve_left c), ob rfl, if_pos rfl]
        · unfold f_X4_save
          rw [ob g3, if_pos rfl]
theorem back_e {k : Nat} {t : TT} {hh : HH} {pp : PP} {s0 s1 : Option TT} {mm : MM} (hk : k < 512) (h : JJ k t hh pp s0 s1 mm) {n : Nat} (hn : n ≤ 1) (x : Option TT) (hx : SR (100 * k) x mm n) :
    ∃ (r : Int32 × TT × HH) (z : Int32 × MM), f_back t hh x = some r ∧ f_X4_restore mm (nI n) = some z ∧ r.1 = z.1 ∧ JJ (k + 1) r.2.1 r.2.2 pp s0 s1 z.2 := by
  obtain ⟨_, h1, h2, ⟨o, sz, h3⟩, h4, h5, h6⟩ := id h
  have hin : f_X4_in (nI n) 0 1 = some 1 := by
    have : n = 0 ∨ n = 1 := by omega
    rcases this with rfl | rfl <;> decide +kernel
  unfold f_X4_restore
  rw [ob hin, if_neg n10, ob (x4_rd (n := n) rfl (by omega) (by decide))]
  cases x with
  | none =>
    have hx' : mm.2.2.2.2.2.1 n = 0 := hx
    exact ⟨(-5, t, hh), (-5, mm), rfl, by rw [if_pos hx'], rfl, JJ_none hk h⟩
  | some v =>
    obtain ⟨k1, k2, k3⟩ := hx
    obtain ⟨hh', mm', n1, n2, n3, n4, n5, n6⟩ := noted h1 h2 h3
    have n5' : mm'.2.2.2.2 = mm.2.2.2.2 := congrArg (fun z => z.2.2) n5
    have hkept : mm'.2.2.2.2.1 = mm.2.2.2.2.1 := congrArg (fun z => z.1) n5'
    obtain ⟨t4, b1, b2⟩ := become_e t v
    have e : ∀ j, j < 181 → cpy mm'.1 mm'.2.2.2.2.1 0 (181 * n) 181 j = blk mm.2.2.2.2.1 n j := fun j hj => by
      rw [cpy_in (by omega) (by omega), hkept]
      exact congrArg mm.2.2.2.2.1 (by omega)
    have R4 := b2 _ _ (RT_u k2 e)
    have U4 := UI_u k3 e
    have e47 : t4.2.2.2.1 = cpy mm'.1 mm'.2.2.2.2.1 0 (181 * n) 181 47 := R4.2.2.2.1
    obtain ⟨hh2, mm2, o', sz', q1, q2, q3, q4, q5⟩ := end_e (HK_row n3 (cpy mm'.1 mm'.2.2.2.2.1 0 (181 * n) 181)) n6 t4.2.2.2.1
    refine ⟨(t4.2.2.2.1, t4, hh2), (t4.2.2.2.1, mm2), ?_, ?_, rfl, hk, ?_, ?_, ⟨o', sz', q3.mono (by omega)⟩, ?_, ?_, ?_⟩
    · show ((f_X0_note hh t).bind fun h1 => (f_X2_become t v).bind fun t4 => (f_X0_keepUnlessError h1 t4.2.2.2.1).bind fun z5 => some (z5.1, t4, z5.2)) = _
      rw [ob n1, ob b1, ob q1]
    · rw [if_neg (by rw [k1]; decide), ob n2, ob (restoreL_e mm' hn)]
      show ((rd (cpy mm'.1 mm'.2.2.2.2.1 0 (181 * n) 181) 181 47).bind fun x16 => _) = _
      rw [ob ms47, ← e47, ob q2]
    · show RT _ t4 mm2.1
      rw [q4]
      exact R4.mono (by omega)
    · show UI mm2.1
      rw [q4]
      exact U4
    · exact h4.cg (q5.trans n5')
    · exact (h5.cg (q5.trans n5')).mono (by omega)
    · exact (h6.cg (q5.trans n5')).mono (by omega)
theorem J_restore : St_restore JJ := by
  intro k t hh pp s0 s1 mm a0 hk h
  obtain ⟨_, h1, h2, ⟨o, sz, h3⟩, h4, h5, h6⟩ := id h
  unfold f_X3_restore
  by_cases c0 : a0 = 0
  · subst c0
    rw [if_pos rfl]
    exact back_e hk h (n := 0) (by decide) s0 h5
  · by_cases c1 : a0 = 1
    · subst c1
      rw [if_neg c0, if_pos rfl]
      exact back_e hk h (n := 1) (by decide) s1 h6
    · have h2' : (nI 2 - 1 : Int32) = 1 := by decide
      rcases in_nI (a := a0) (n := 2) (by decide) with ⟨n, hn, rfl, g1, g2, g3⟩ | ⟨g1, g3⟩
      · exfalso
        have : n = 0 ∨ n = 1 := by omega
        rcases this with rfl | rfl
        · exact c0 nI_0
        · exact c1 rfl
      · rw [h2'] at g3
        refine ⟨(-2, t, hh), (-2, mm), ?_, ?_, rfl, JJ_none hk h⟩
        · rw [if_neg c0, if_neg c1]
          unfold f_X3_isSlot
          by_cases c : a0 < 0
          · rw [if_pos c, ob rfl, if_pos rfl]
          · rw [if_neg c, show (2 : Int32) = nI 2 from rfl, if_pos (g1.resolve_left c), ob rfl, if_pos rfl]
        · unfold f_X4_restore
          rw [ob g3, if_pos rfl]
theorem J_wipe : St_wipe JJ := by
  intro k t hh pp s0 s1 mm hk h
  obtain ⟨_, h1, h2, ⟨o, sz, h3⟩, ⟨n, p1, p2, p3, p4, p5⟩, h5, h6⟩ := id h
  exact ⟨(pp.2.1, P1 pp 0), (mm.2.2.2.2.2.2.2.1, M7 mm 0), rfl, rfl, p2.trans p3.symm, hk, h1.mono (by omega), h2, ⟨o, sz, HK.mono (B := 100 * k) h3 (by omega)⟩, ⟨0, by decide, nI_0.symm, nI_0.symm, fun i hi => absurd hi (Nat.not_lt_zero i), fun i hi => absurd hi (Nat.not_lt_zero i)⟩, h5.mono (by omega), h6.mono (by omega)⟩

/-! the changes, one by one -/
theorem isPoints_e (a : Int32) : f_X2_isPoints a = f_X4_in a 0 9 := rfl
theorem isRank_e (a : Int32) : f_X2_isRank a = f_X4_in a 1 9 := rfl
theorem in01 (a lo hi : Int32) : f_X4_in a lo hi = some 0 ∨ (f_X4_in a lo hi = some 1 ∧ lo.toInt ≤ a.toInt ∧ a.toInt ≤ hi.toInt) := by
  rw [in_e]
  by_cases c : a < lo ∨ hi < a
  · exact Or.inl (by rw [if_pos c])
  · refine Or.inr ⟨by rw [if_neg c], ?_⟩
    have h1 := mt ti_lt.2 (fun d => c (Or.inl d))
    have h2 := mt ti_lt.2 (fun d => c (Or.inr d))
    omega
theorem al_xor : ∀ al : Fin 32, ∀ w : Fin 5, 0 ≤ (nI al.1 ^^^ ((1 : Int32) <<< (nI w.1 &&& 31))).toInt ∧ (nI al.1 ^^^ ((1 : Int32) <<< (nI w.1 &&& 31))).toInt ≤ 31 := by decide +kernel
theorem al_both : ∀ al : Fin 32, ∀ w : Fin 5, (nI al.1 &&& ((1 : Int32) <<< (nI w.1 &&& 31)) = 0) ↔ (((nI al.1 >>> (nI w.1 &&& 31)) &&& 1) = 0) := by decide +kernel
section SL
variable {B : Nat} {t : TT} {u : Nat → Int32} {np nq : Nat}
theorem op_person (hR : RT B t u) (hS : US u) (hN : UN u np nq) (a b : Int32) : ∃ r t' u', f_X2_addPerson t a b = some (r, t') ∧ f_X4_comes u a b = some (r, u') ∧ RT B t' u' ∧ UI u' := by
  have hp := hN.1
  have hI : UI u := ⟨hS, np, nq, hN⟩
  unfold f_X2_addPerson f_X4_comes
  rw [isPoints_e, isPoints_e]
  rcases in01 a 0 9 with h1 | ⟨h1, ba⟩
  · exact ⟨-2, t, u, by rw [ob h1, if_pos rfl], by rw [ob h1, if_pos rfl], hR, hI⟩
  rcases in01 b 0 9 with h2 | ⟨h2, bb⟩
  · exact ⟨-2, t, u, by rw [ob h1, if_neg n10, ob h2, if_pos rfl], by rw [ob h1, if_neg n10, ob h2, if_pos rfl], hR, hI⟩
  rw [ti_0, ti_9] at ba bb
  rw [ob h1, ob h1, if_neg n10, if_neg n10, ob h2, ob h2, if_neg n10, if_neg n10, ob ms5, hR.2.2.1, hN.2.2.1]
  by_cases c : np < 10
  · obtain ⟨t1, w1, R1⟩ := x2_wp hR 0 (a := 4) rfl c (by decide) a
    obtain ⟨t2, w2, R2⟩ := x2_wp R1 1 (a := 14) rfl c (by decide) b
    obtain ⟨t3, w3, R3⟩ := x2_wp R2 2 (a := 24) rfl c (by decide) (-6)
    obtain ⟨t4, w4, R4⟩ := x2_wp R3 3 (a := 34) rfl c (by decide) 0
    have N4 := UN_p (UN_p (UN_p (UN_p hN c (w := 0) (v := a) (by decide) (fun d => absurd d (Nat.lt_irrefl _))) c (w := 1) (v := b) (by decide) (fun d => absurd d (Nat.lt_irrefl _))) c (w := 2) (v := -6) (by decide) (fun d => absurd d (Nat.lt_irrefl _))) c (w := 3) (v := 0) (by decide) (fun d => absurd d (Nat.lt_irrefl _))
    obtain ⟨u4, eu4⟩ : ∃ u4, u4 = upd (upd (upd (upd u (6 + 4 * np + 0) a) (6 + 4 * np + 1) b) (6 + 4 * np + 2) (-6)) (6 + 4 * np + 3) 0 := ⟨_, rfl⟩
    have S4 : US u4 := by
      rw [eu4]
      exact US_u (US_u (US_u (US_u hS (by omega) (by omega)) (by omega) (by omega)) (by omega) (by omega)) (by omega) (by omega)
    rw [← eu4] at R4 N4
    have e5 : u4 5 = nI np := N4.2.2.1
    refine ⟨nI np, T2 t4 (nI (np + 1)), upd u4 5 (nI (np + 1)), ?_, ?_, RT_persons R4 _, US_u S4 (by decide) (by decide), np + 1, nq, by omega, hN.2.1, pk_us, ?_, fun k hk => ?_, fun k hk => ?_⟩
    · rw [if_pos (by rw [show (10 : Int32) = nI 10 from rfl]; exact nI_lt c (by decide)), ob w1, ob w2, ob w3, ob w4, R4.2.2.1, e5, nI_1]
    · rw [if_neg (by rw [show (10 : Int32) = nI 10 from rfl, nI_eq (by omega) (by decide)]; omega), ob ms5, hN.2.2.1, x4_pj, ob (x4_wr (n := 6 + 4 * np + 0) (a := nI (6 + 4 * np)) rfl (by omega) (by decide)),
        show nI (6 + 4 * np) + (1 : Int32) = nI (6 + 4 * np + 1) from nI_1 _, show nI (6 + 4 * np) + (2 : Int32) = nI (6 + 4 * np + 2) from nI_add _ 2, show nI (6 + 4 * np) + (3 : Int32) = nI (6 + 4 * np + 3) from nI_add _ 3,
        ob (x4_wr (n := 6 + 4 * np + 1) rfl (by omega) (by decide)), ob (x4_wr (n := 6 + 4 * np + 2) rfl (by omega) (by decide)), ob (x4_wr (n := 6 + 4 * np + 3) rfl (by omega) (by decide))]
      show ((rd (upd (upd (upd (upd u (6 + 4 * np + 0) a) (6 + 4 * np + 1) b) (6 + 4 * np + 2) (-6)) (6 + 4 * np + 3) 0) 181 5).bind fun x20 => _) = _
      rw [← eu4, ob (x4_rd (n := 5) (a := 5) rfl (by decide) (by decide)), e5, nI_1, ob (x4_wr (n := 5) (a := 5) rfl (by decide) (by decide)), ob (x4_rd (n := 5) (a := 5) rfl (by decide) (by decide)), pk_us, nI_pred]
    · rw [pk_un (by decide)]; exact N4.2.2.2.1
    · by_cases d : k < np
      · exact PI_cg (N4.2.2.2.2.1 k d) (Nat.le_succ np) (fun w hw => pk_un (by omega))
      · obtain rfl : k = np := by omega
        have q0 : pv (upd u4 5 (nI (k + 1))) k 0 = a := by
          show upd u4 5 _ (6 + 4 * k + 0) = a
          rw [pk_un (by omega), eu4, pk_un (by omega), pk_un (by omega), pk_un (by omega), pk_us]
        have q1 : pv (upd u4 5 (nI (k + 1))) k 1 = b := by
          show upd u4 5 _ (6 + 4 * k + 1) = b
          rw [pk_un (by omega), eu4, pk_un (by omega), pk_un (by omega), pk_us]
        have q2 : pv (upd u4 5 (nI (k + 1))) k 2 = -6 := by
          show upd u4 5 _ (6 + 4 * k + 2) = -6
          rw [pk_un (by omega), eu4, pk_un (by omega), pk_us]
        have q3 : pv (upd u4 5 (nI (k + 1))) k 3 = 0 := by
          show upd u4 5 _ (6 + 4 * k + 3) = 0
          rw [pk_un (by omega), eu4, pk_us]
        unfold PI
        rw [q0, q1, q2, q3]
        exact ⟨ba, bb, Or.inl rfl, by decide⟩
    · exact QI_cg (N4.2.2.2.2.2 k hk) (Nat.le_succ np) (fun w hw => pk_un (by omega))
  · obtain rfl : np = 10 := by omega
    exact ⟨-4, t, u, by rw [if_neg (by decide)], by rw [if_pos (by decide)], hR, hI⟩
theorem op_second (hR : RT B t u) (hS : US u) (hN : UN u np nq) (a b : Int32) : ∃ r t' u', f_X2_takeSecond t a b = some (r, t') ∧ f_X4_takes u a b = some (r, u') ∧ RT B t' u' ∧ UI u' := by
  have hp := hN.1
  have hI : UI u := ⟨hS, np, nq, hN⟩
  unfold f_X2_takeSecond f_X4_takes
  rcases hasP hR hN a with ⟨i, hi, ei, g1, g2⟩ | ⟨g1, g2⟩
  · rcases hasP hR hN b with ⟨j, hj, ej, g3, g4⟩ | ⟨g3, g4⟩
    · rw [ob g1, ob g2, if_neg n10, if_neg n10, ob g3, ob g4, if_neg n10, if_neg n10]
      by_cases c : a = b
      · exact ⟨-2, t, u, by rw [if_pos c], by rw [if_pos c], hR, hI⟩
      · obtain ⟨t1, w1, R1⟩ := x2_wp hR (k := i) 2 (a := 24) rfl (by omega) (by decide) b
        refine ⟨pv u i 2, t1, upd u (6 + 4 * i + 2) b, ?_, ?_, R1, US_u hS (by omega) (by omega), np, nq, UN_p hN (by omega) (by decide) (fun _ => ⟨fun d => by omega, fun d => by omega, fun _ => Or.inr ⟨j, hj, ej⟩, fun d => by omega⟩)⟩
        · rw [if_neg c, ei, ob (rdp2 hR (by omega)), ob w1]
        · rw [if_neg c, ei, ob (mp2 (by omega)), x4_pi (w := 2) (a := 2) rfl, ob (x4_wr rfl (by omega) (by decide))]
    · exact ⟨-1, t, u, by rw [ob g1, if_neg n10, ob g3, if_pos rfl], by rw [ob g2, if_neg n10, ob g4, if_pos rfl], hR, hI⟩
  · exact ⟨-1, t, u, by rw [ob g1, if_pos rfl], by rw [ob g2, if_pos rfl], hR, hI⟩
theorem op_allow (hR : RT B t u) (hS : US u) (hN : UN u np nq) (a : Int32) : ∃ r t' u', f_X2_allowOrBar t a = some (r, t') ∧ f_X4_turns u a = some (r, u') ∧ RT B t' u' ∧ UI u' := by
  have hI : UI u := ⟨hS, np, nq, hN⟩
  obtain ⟨al, ea⟩ := decide_u46 hS
  unfold f_X2_allowOrBar f_X4_turns
  have h4 : (nI 5 - 1 : Int32) = 4 := by decide
  rcases in_nI (a := a) (n := 5) (by decide) with ⟨k, hk, rfl, h1, h2, h3⟩ | ⟨h1, h3⟩
  · rw [h4] at h3
    have hx := al_xor al ⟨k, hk⟩
    refine ⟨nI al.1 ^^^ ((1 : Int32) <<< (nI k &&& 31)), T1 t (nI al.1 ^^^ ((1 : Int32) <<< (nI k &&& 31))), upd u 46 (nI al.1 ^^^ ((1 : Int32) <<< (nI k &&& 31))), ?_, ?_, RT_allowed hR _, ?_, np, nq, UN_cg hN (fun j _ _ hj => pk_un hj)⟩
    · rw [if_neg h1, if_pos (show nI k < 5 from nI_lt hk (by decide)), hR.2.1, ea]
      rfl
    · rw [ob h3, if_neg n10, ob ms46, ea, ob (x4_wr (n := 46) (a := 46) rfl (by decide) (by decide)), ob (x4_rd (n := 46) (a := 46) rfl (by decide) (by decide)), pk_us]
    · unfold US
      rw [pk_un (by decide), pk_un (by decide), pk_un (by decide), pk_un (by decide), pk_un (by decide), pk_us]
      exact ⟨hS.1, hS.2.1, hS.2.2.1, hS.2.2.2.1, hS.2.2.2.2.1, hx⟩
  · rw [h4] at h3
    refine ⟨-1, t, u, ?_, by rw [ob h3, if_pos rfl], hR, hI⟩
    by_cases c : a < 0
    · rw [if_pos c]
    · rw [if_neg c, if_neg (fun d => by
        have d1 := ti_lt.1 d
        have d2 := ti_le.1 (h1.resolve_left c)
        have d3 : (nI 5).toInt = (5 : Int32).toInt := rfl
        omega)]
theorem open_loop (hR : RT B t u) (hN : UN u np nq) (a b r : Int32) : ∀ (d k n : Nat), k + d = nq → d < n →
    (f_X2_haveOpenQuarrel_L2 t a b n (nI k) = some 1 ∧ f_X4_offends_L39 u a b r n (nI k) = some (-5, u)) ∨
    (f_X2_haveOpenQuarrel_L2 t a b n (nI k) = some 0 ∧ ∃ n', f_X4_offends_L39 u a b r n (nI k) = f_X4_offends_L39 u a b r (n' + 1) (nI nq)) := by
  have hq := hN.2.1
  intro d
  induction d with
  | zero =>
    intro k n h1 h2
    obtain ⟨n, rfl⟩ : ∃ n', n = n' + 1 := ⟨n - 1, by omega⟩
    refine Or.inr ⟨?_, n, by rw [show k = nq from by omega]⟩
    rw [f_X2_haveOpenQuarrel_L2, if_pos ((nq_le hR hN (by omega)).2 (by omega))]
  | succ d ih =>
    intro k n h1 h2
    obtain ⟨n, rfl⟩ : ∃ n', n = n' + 1 := ⟨n - 1, by omega⟩
    have hi := ih (k + 1) n (by omega) (by omega)
    have a1 : f_X2_haveOpenQuarrel_L2 t a b (n + 1) (nI k) = if qv u k 4 = 0 ∧ TH a b (qv u k 0) (qv u k 1) then some 1 else f_X2_haveOpenQuarrel_L2 t a b n (nI (k + 1)) := by
      rw [f_X2_haveOpenQuarrel_L2, if_neg (fun c => absurd ((nq_le hR hN (by omega)).1 c) (by omega)), ob (isOpen_e hR (by omega)), nI_1]
      by_cases c : qv u k 4 = 0
      · rw [if_pos c, if_neg n10, ob (rq0 hR (by omega)), ob (rq1 hR (by omega)), ob (areThese_e _ _ _ _)]
        by_cases c2 : TH a b (qv u k 0) (qv u k 1)
        · rw [if_pos c2, if_neg n10, if_pos ⟨c, c2⟩]
        · rw [if_neg c2, if_pos rfl, if_neg (fun d => c2 d.2)]
      · rw [if_neg c, if_pos rfl, if_neg (fun d => c d.1)]
    have a2 : f_X4_offends_L39 u a b r (n + 1) (nI k) = if qv u k 4 = 0 ∧ TH a b (qv u k 0) (qv u k 1) then some (-5, u) else f_X4_offends_L39 u a b r n (nI (k + 1)) := by
      rw [f_X4_offends_L39, ob ms47, if_neg (fun c => absurd ((mq_le hN (by omega)).1 c) (by omega)), ob (areOfThese_e (by omega) _ _), nI_1]
      by_cases c2 : TH a b (qv u k 0) (qv u k 1)
      · rw [if_pos c2, if_neg n10, ob (mq4 (by omega))]
        by_cases c : qv u k 4 = 0
        · rw [if_pos c, if_pos ⟨c, c2⟩]
        · rw [if_neg c, if_neg (fun d => c d.1)]
      · rw [if_neg c2, if_pos rfl, if_neg (fun d => c2 d.2)]
    rw [a1, a2]
    by_cases c : qv u k 4 = 0 ∧ TH a b (qv u k 0) (qv u k 1)
    · exact Or.inl ⟨by rw [if_pos c], by rw [if_pos c]⟩
    · rw [if_neg c, if_neg c]
      exact hi
theorem op_insult (hR : RT B t u) (hB : B < 1000000) (hS : US u) (hN : UN u np nq) (a b r0 : Int32) : ∃ r t' u', f_X2_addQuarrel t a b r0 = some (r, t') ∧ f_X4_offends u a b r0 = some (r, u') ∧ RT (B + 1) t' u' ∧ UI u' := by
  have hp := hN.1
  have hq := hN.2.1
  have hI : UI u := ⟨hS, np, nq, hN⟩
  have hR' : RT (B + 1) t u := hR.mono (Nat.le_succ B)
  unfold f_X2_addQuarrel f_X4_offends f_X2_haveOpenQuarrel
  rcases err_e hR hN a b r0 with ⟨x, hx, h1, h2⟩ | ⟨i, j, hi, hj, hij, ei, ej, hr, hne, h1, g2, g4, h5⟩
  · refine ⟨x, t, u, by rw [ob h1, if_neg hx], ?_, hR', hI⟩
    rcases h2 with ⟨g2, rfl⟩ | ⟨g2, g4, rfl⟩ | ⟨g2, g4, c, rfl⟩ | ⟨g2, g4, c, h5, rfl⟩
    · rw [ob g2, if_pos rfl]
    · rw [ob g2, if_neg n10, ob g4, if_pos rfl]
    · rw [ob g2, if_neg n10, ob g4, if_neg n10, if_pos c]
    · rw [ob g2, if_neg n10, ob g4, if_neg n10, if_neg c, ob h5, if_pos rfl]
  · have hl := open_loop hR hN a b r0 nq 0 2000 (by omega) (by omega)
    rw [nI_0] at hl
    rw [ob h1, if_pos rfl, ob g2, if_neg n10, ob g4, if_neg n10, if_neg hne, ob h5, if_neg n10]
    rcases hl with ⟨l1, l2⟩ | ⟨l1, n', l2⟩
    · exact ⟨-5, t, u, by rw [ob l1, if_neg n10], l2, hR', hI⟩
    · rw [ob l1, if_pos rfl, l2, f_X4_offends_L39, ob ms47, if_pos ((mq_le hN (by omega)).2 (Nat.le_refl nq)), ob ms47, hR.2.2.2.1, hN.2.2.2.1]
      by_cases c : nq < 12
      · rw [if_pos (by rw [show (12 : Int32) = nI 12 from rfl]; exact nI_lt c (by decide)), if_neg (by rw [show (12 : Int32) = nI 12 from rfl, nI_eq (by omega) (by decide)]; omega)]
        obtain ⟨t1, w1, R1⟩ := x2_wq hR 0 (a := 44) rfl c (by decide) a
        obtain ⟨t2, w2, R2⟩ := x2_wq R1 1 (a := 56) rfl c (by decide) b
        obtain ⟨t3, w3, R3⟩ := x2_wq R2 2 (a := 68) rfl c (by decide) r0
        obtain ⟨t4, w4, R4⟩ := x2_wq R3 3 (a := 80) rfl c (by decide) (u 4)
        obtain ⟨t5, w5, R5⟩ := x2_wq R4 4 (a := 92) rfl c (by decide) 0
        obtain ⟨t6, w6, R6⟩ := x2_wq R5 5 (a := 104) rfl c (by decide) (-6)
        obtain ⟨t7, w7, R7⟩ := x2_wq R6 7 (a := 116) rfl c (by decide) 0
        obtain ⟨t8, w8, R8⟩ := x2_wq R7 6 (a := 128) rfl c (by decide) (-6)
        have no : ∀ w v, nq < nq → QFw w v := fun w v d => absurd d (Nat.lt_irrefl _)
        have N6 := UN_q (UN_q (UN_q (UN_q (UN_q (UN_q hN c (w := 0) (v := a) (by decide) (no _ _)) c (w := 1) (v := b) (by decide) (no _ _)) c (w := 2) (v := r0) (by decide) (no _ _)) c (w := 3) (v := u 4) (by decide) (no _ _)) c (w := 4) (v := 0) (by decide) (no _ _)) c (w := 5) (v := -6) (by decide) (no _ _)
        have N8 := UN_q (UN_q N6 c (w := 6) (v := -6) (by decide) (no _ _)) c (w := 7) (v := 0) (by decide) (no _ _)
        have S8 := US_u (US_u (US_u (US_u (US_u (US_u (US_u (US_u hS (n := 48 + 8 * nq + 0) (v := a) (by omega) (by omega)) (n := 48 + 8 * nq + 1) (v := b) (by omega) (by omega)) (n := 48 + 8 * nq + 2) (v := r0) (by omega) (by omega)) (n := 48 + 8 * nq + 3) (v := u 4) (by omega) (by omega)) (n := 48 + 8 * nq + 4) (v := 0) (by omega) (by omega)) (n := 48 + 8 * nq + 5) (v := -6) (by omega) (by omega)) (n := 48 + 8 * nq + 6) (v := -6) (by omega) (by omega)) (n := 48 + 8 * nq + 7) (v := 0) (by omega) (by omega)
        rw [upd_comm (a := 48 + 8 * nq + 7) (b := 48 + 8 * nq + 6) (by omega)] at R8
        obtain ⟨u8, eu8⟩ : ∃ u8, u8 = upd (upd (upd (upd (upd (upd (upd (upd u (48 + 8 * nq + 0) a) (48 + 8 * nq + 1) b) (48 + 8 * nq + 2) r0) (48 + 8 * nq + 3) (u 4)) (48 + 8 * nq + 4) 0) (48 + 8 * nq + 5) (-6)) (48 + 8 * nq + 6) (-6)) (48 + 8 * nq + 7) 0 := ⟨_, rfl⟩
        rw [← eu8] at R8 N8 S8
        have e47 : u8 47 = nI nq := N8.2.2.2.1
        have e47' : t8.2.2.2.1 = nI nq := R8.2.2.2.1.trans e47
        have R9 := RT_quarrels R8 (nI (nq + 1))
        obtain ⟨t9, u9, y1, y2, R10, y3⟩ := tell_e R9 hB 0 (nI nq)
        have e14 : t3.1 = u 4 := by
          rw [R3.1, pk_un (by omega), pk_un (by omega), pk_un (by omega)]
        refine ⟨nI nq, t9, u9, ?_, ?_, R10, ?_, np, nq + 1, hp, by omega, ?_, ?_, fun k hk => ?_, fun k hk => ?_⟩
        · rw [ob w1, ob w2, ob w3, e14, ob w4, ob w5, ob w6, ob w7, ob w8, e47', nI_1, ob y1]
        · rw [ob ms47, hN.2.2.2.1, x4_qj, ob (x4_wr (n := 48 + 8 * nq + 0) (a := nI (48 + 8 * nq)) rfl (by omega) (by decide)),
            show nI (48 + 8 * nq) + (1 : Int32) = nI (48 + 8 * nq + 1) from nI_add _ 1, show nI (48 + 8 * nq) + (2 : Int32) = nI (48 + 8 * nq + 2) from nI_add _ 2, show nI (48 + 8 * nq) + (3 : Int32) = nI (48 + 8 * nq + 3) from nI_add _ 3, show nI (48 + 8 * nq) + (4 : Int32) = nI (48 + 8 * nq + 4) from nI_add _ 4, show nI (48 + 8 * nq) + (5 : Int32) = nI (48 + 8 * nq + 5) from nI_add _ 5, show nI (48 + 8 * nq) + (6 : Int32) = nI (48 + 8 * nq + 6) from nI_add _ 6, show nI (48 + 8 * nq) + (7 : Int32) = nI (48 + 8 * nq + 7) from nI_add _ 7,
            ob (x4_wr (n := 48 + 8 * nq + 1) rfl (by omega) (by decide)), ob (x4_wr (n := 48 + 8 * nq + 2) rfl (by omega) (by decide)), ob (x4_rd (n := 4) (a := 4) rfl (by decide) (by decide)), pk_un (by omega), pk_un (by omega), pk_un (by omega), ob (x4_wr (n := 48 + 8 * nq + 3) rfl (by omega) (by decide)), ob (x4_wr (n := 48 + 8 * nq + 4) rfl (by omega) (by decide)), ob (x4_wr (n := 48 + 8 * nq + 5) rfl (by omega) (by decide)), ob (x4_wr (n := 48 + 8 * nq + 6) rfl (by omega) (by decide)), ob (x4_wr (n := 48 + 8 * nq + 7) rfl (by omega) (by decide))]
          show ((rd (upd (upd (upd (upd (upd (upd (upd (upd u (48 + 8 * nq + 0) a) (48 + 8 * nq + 1) b) (48 + 8 * nq + 2) r0) (48 + 8 * nq + 3) (u 4)) (48 + 8 * nq + 4) 0) (48 + 8 * nq + 5) (-6)) (48 + 8 * nq + 6) (-6)) (48 + 8 * nq + 7) 0) 181 47).bind fun x37 => _) = _
          rw [← eu8, ob (x4_rd (n := 47) (a := 47) rfl (by decide) (by decide)), e47, nI_1, ob (x4_wr (n := 47) (a := 47) rfl (by decide) (by decide)), ob (x4_rd (n := 47) (a := 47) rfl (by decide) (by decide)), pk_us, nI_pred, ob y2, ob (x4_rd (n := 47) (a := 47) rfl (by decide) (by decide)), y3 47 (by decide), pk_us, nI_pred]
        · exact US_cg (US_u S8 (n := 47) (v := nI (nq + 1)) (by decide) (by decide)) (fun j hj => y3 j (by omega))
        · rw [y3 5 (by decide), pk_un (by decide)]; exact N8.2.2.1
        · rw [y3 47 (by decide), pk_us]
        · exact PI_cg (N8.2.2.2.2.1 k hk) (Nat.le_refl np) (fun w hw => by
            show u9 (6 + 4 * k + w) = u8 (6 + 4 * k + w)
            rw [y3 _ (by omega), pk_un (by omega)])
        · by_cases d : k < nq
          · exact QI_cg (N8.2.2.2.2.2 k d) (Nat.le_refl np) (fun w hw => by
              show u9 (48 + 8 * k + w) = u8 (48 + 8 * k + w)
              rw [y3 _ (by omega), pk_un (by omega)])
          · obtain rfl : k = nq := by omega
            have z0 : qv u9 k 0 = nI i := by
              show u9 (48 + 8 * k + 0) = _
              rw [y3 _ (by omega), pk_un (by omega), eu8, pk_un (by omega), pk_un (by omega), pk_un (by omega), pk_un (by omega), pk_un (by omega), pk_un (by omega), pk_un (by omega), pk_us, ei]
            have z1 : qv u9 k 1 = nI j := by
              show u9 (48 + 8 * k + 1) = _
              rw [y3 _ (by omega), pk_un (by omega), eu8, pk_un (by omega), pk_un (by omega), pk_un (by omega), pk_un (by omega), pk_un (by omega), pk_un (by omega), pk_us, ej]
            have z2 : qv u9 k 2 = r0 := by
              show u9 (48 + 8 * k + 2) = _
              rw [y3 _ (by omega), pk_un (by omega), eu8, pk_un (by omega), pk_un (by omega), pk_un (by omega), pk_un (by omega), pk_un (by omega), pk_us]
            have z3 : qv u9 k 3 = u 4 := by
              show u9 (48 + 8 * k + 3) = _
              rw [y3 _ (by omega), pk_un (by omega), eu8, pk_un (by omega), pk_un (by omega), pk_un (by omega), pk_un (by omega), pk_us]
            have z7 : qv u9 k 7 = 0 := by
              show u9 (48 + 8 * k + 7) = _
              rw [y3 _ (by omega), pk_un (by omega), eu8, pk_us]
            unfold QI
            rw [z0, z1, z2, z3, z7]
            exact ⟨⟨i, j, hi, hj, hij, rfl, rfl⟩, hr, hS.2.2.2.2.1, by decide⟩
      · obtain rfl : nq = 12 := by omega
        exact ⟨-4, t, u, by rw [if_neg (by decide)], by rw [if_pos (by decide)], hR', hI⟩
end SL

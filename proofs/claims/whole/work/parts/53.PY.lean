/-! carryOut, the start, all steps -/
theorem J_carryOut : St_carryOut JJ := by
  intro k t hh pp s0 s1 mm hk h
  obtain ⟨r, q, y', a', w', n, z1, z2, z3, z4, z5, z6, z7, z8, z9, z10⟩ := fault_both h
  unfold f_X3_carryOut f_X4_carryOut
  rw [ob z1, ob z4]
  rcases z10 with ⟨rfl, rfl, hT⟩ | ⟨rfl, rfl⟩
  · obtain ⟨_, h1, h2, ⟨o, sz, h3⟩, h4, h5, h6⟩ := JJ_PM h z2 z3 a' 0
    obtain ⟨hh', mm', n1, n2, n3, n4, n5, n6⟩ := noted h1 h2 h3
    have n5' : mm'.2.2.2.2 = (PM mm a' 0).2.2.2.2 := congrArg (fun z => z.2.2) n5
    have hpad : mm'.2.2.2.2.2.2.1 = mm.2.2.2.2.2.2.1 := congrArg (fun z => z.2.2.1) n5'
    have hlen : mm'.2.2.2.2.2.2.2.1 = nI n := (congrArg (fun z => z.2.2.2.1) n5').trans z7
    obtain ⟨y, b, t', u', q', c1, c2, c3, c4, c5, c6⟩ := carry_loop z6 z5 z8 hh' (n + 1) 0 0 2000 2000 (100 * k) q.2.2.2.1 q.2.2.2.2.2 q.2.2.2.2.1 t mm' hT (by omega) (by omega) (by omega) (by omega) hpad hlen (by omega) (by rw [n4]; exact h1) (by rw [n4]; exact h2)
    have c2' : f_X3_carryOut_L38 2000 t hh' (P2 q 0) 0 0 = ((f_X0_keepUnlessError hh' (nI y)).bind fun x7 => some (x7.1, t', x7.2, P1 q' 0)) := by
      have e : P2 q 0 = QW pp q.2.2.2.1 0 q.2.2.2.2.2 q.2.2.2.2.1 := by
        show (q.1, q.2.1, (0 : Int32), q.2.2.2) = _
        rw [z2, z3]
        rfl
      rw [e]
      exact c2
    have c4' : f_X4_go mm' 1 = some (nI y, M0 (PM mm' b 0) u') := c4
    obtain ⟨hh2, mm2, o', sz', q1, q2, q3, q4, q5⟩ := end_e (mm := M7 (M0 (PM mm' b 0) u') 0) (show HK (100 * k) hh' (M7 (M0 (PM mm' b 0) u') 0) o sz from n3) n6 (nI y)
    refine ⟨(nI y, t', hh2, P1 q' 0), (nI y, mm2), ?_, ?_, rfl, hk, ?_, ?_, ⟨o', sz', q3.mono (by omega)⟩, ?_, ?_, ?_⟩
    · rw [if_pos rfl, ob n1, c2', ob q1]
    · show (if (0 : Int32) = 0 then ((f_X4_putAside (PM mm a' 0)).bind fun x4 => _) else _) = _
      rw [if_pos rfl, ob n2, ob c4']
      show ((f_X4_end (M7 (M0 (PM mm' b 0) u') 0) (nI y)).bind fun x8 => _) = _
      rw [ob q2]
    · show RT _ t' mm2.1
      rw [q4]
      exact c5.mono (by omega)
    · show UI mm2.1
      rw [q4]
      exact c6
    · refine ⟨0, by decide, nI_0.symm, ?_, fun i hi => absurd hi (Nat.not_lt_zero i), fun i hi => absurd hi (Nat.not_lt_zero i)⟩
      rw [q5]
      exact nI_0.symm
    · have g5 : SR (100 * k) s0 (M7 (M0 (PM mm' b 0) u') 0) 0 := (show SR (100 * k) s0 mm' 0 from h5.cg n5')
      exact (g5.cg q5).mono (by omega)
    · have g6 : SR (100 * k) s1 (M7 (M0 (PM mm' b 0) u') 0) 1 := (show SR (100 * k) s1 mm' 1 from h6.cg n5')
      exact (g6.cg q5).mono (by omega)
  · have hne : ¬ nI a' = -6 := fun e => by
      have e2 := ti_eq.1 e
      rw [nI_i (by omega), ti_m6] at e2
      omega
    exact ⟨(-3, t, hh, q), (-3, PM mm a' 1), by rw [if_neg hne], if_neg n10, rfl, JJ_none hk (JJ_PM h z2 z3 a' 1)⟩
theorem J_init : St_init JJ := by
  have R0 : RT 0 ((0, 31, 0, 0, 0, fun _ => 0) : TT) (upd (fun _ => 0) 46 31) := by
    refine ⟨?_, ?_, ?_, ?_, ⟨fun j hj => ?_, fun w k hw hk => ?_, fun w k hw hk => ?_⟩, 0, Nat.le_refl 0, nI_0.symm, ?_, fun r w hr hw => by omega⟩
    · rw [pk_un (by decide)]
    · rw [pk_us]
    · rw [pk_un (by decide)]
    · rw [pk_un (by decide)]
    · rw [pk_un (by omega)]
    · rw [pk_un (by omega)]
    · rw [pk_un (by omega)]
    · rw [pk_un (by decide)]; exact nI_0.symm
  obtain ⟨t1, w1, R1⟩ := x2_ws R0 (j := 0) (by decide) 12
  obtain ⟨t2, w2, R2⟩ := x2_ws R1 (j := 1) (by decide) 24
  obtain ⟨t3, w3, R3⟩ := x2_ws R2 (j := 2) (by decide) 72
  obtain ⟨t4, w4, R4⟩ := x2_ws R3 (j := 3) (by decide) 100
  rw [upd_comm (a := 46) (b := 0) (by decide), upd_comm (a := 46) (b := 1) (by decide), upd_comm (a := 46) (b := 2) (by decide), upd_comm (a := 46) (b := 3) (by decide)] at R4
  refine ⟨t4, M0 mm0 (upd (upd (upd (upd (upd (fun _ => 0) 0 12) 1 24) 2 72) 3 100) 46 31), ?_, ?_, by decide, R4, ⟨?_, 0, 0, by decide, by decide, ?_, ?_, fun k hk => absurd hk (Nat.not_lt_zero k), fun k hk => absurd hk (Nat.not_lt_zero k)⟩, ⟨0, 0, by decide, by decide, nI_0.symm, nI_0.symm, nI_0.symm, fun j hj => absurd hj (Nat.not_lt_zero j)⟩, ⟨0, by decide, nI_0.symm, nI_0.symm, fun i hi => absurd hi (Nat.not_lt_zero i), fun i hi => absurd hi (Nat.not_lt_zero i)⟩, rfl, rfl⟩
  · unfold f_X2_init
    have e0 : f_X2_write ((0, 31, 0, 0, 0, fun _ => 0) : TT) 0 0 12 = some t1 := w1
    have e1 : f_X2_write t1 0 1 24 = some t2 := w2
    have e2 : f_X2_write t2 0 2 72 = some t3 := w3
    have e3 : f_X2_write t3 0 3 100 = some t4 := w4
    rw [ob e0, ob e1, ob e2, ob e3]
  · unfold f_X4_init
    rw [ob (x4_wr (n := 0) (a := 0) rfl (by decide) (by decide)), ob (x4_wr (n := 1) (a := 1) rfl (by decide) (by decide)), ob (x4_wr (n := 2) (a := 2) rfl (by decide) (by decide)), ob (x4_wr (n := 3) (a := 3) rfl (by decide) (by decide)), ob (x4_wr (n := 46) (a := 46) rfl (by decide) (by decide))]
  · show US (upd (upd (upd (upd (upd (fun _ => 0) 0 12) 1 24) 2 72) 3 100) 46 31)
    unfold US
    decide
  · show upd (upd (upd (upd (upd (fun _ => 0) 0 12) 1 24) 2 72) 3 100) 46 31 5 = nI 0
    decide
  · show upd (upd (upd (upd (upd (fun _ => 0) 0 12) 1 24) 2 72) 3 100) 46 31 47 = nI 0
    decide
theorem J_steps : Steps JJ := ⟨J_set, J_person, J_second, J_allow, J_insult, J_settle, J_fight, J_swear, J_pass, J_of, J_quarrel, J_record, J_pressing, J_insults, J_count, J_why, J_firstWay, J_opensIn, J_dueIn, J_ifInsulted, J_ifFought, J_put, J_wipe, J_fault, J_carryOut, J_undo, J_save, J_restore, J_none⟩

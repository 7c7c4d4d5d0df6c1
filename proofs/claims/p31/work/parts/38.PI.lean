/-! persons, quarrels, numbers: both answer alike -/
section SI
variable {B : Nat} {t : TT} {u : Nat → Int32} {np nq : Nat}
theorem oathLeft4_e (hS : US u) (hN : UN u np nq) {k : Nat} (hk : k < np) : f_X4_oathLeft u (nI k) = some (if (0 : Int32) < pv u k 3 - u 4 then pv u k 3 - u 4 else 0) := by
  unfold f_X4_oathLeft
  have pi := (hN.2.2.2.2.1 k hk).2.2.2
  have h4 := hS.2.2.2.2.1
  have e : (pv u k 3 - u 4).toInt = (pv u k 3).toInt - (u 4).toInt := ti_sub (by omega) (by omega)
  rw [ob (mp3 (by have := hN.1; omega)), ob ms4]
  by_cases c : (0 : Int32) ≤ pv u k 3 - u 4
  · rw [if_pos c]
    by_cases d : (0 : Int32) < pv u k 3 - u 4
    · rw [if_pos d]
    · rw [if_neg d]
      have c' := ti_le.1 c
      have d' := mt ti_lt.2 d
      have : pv u k 3 - u 4 = 0 := by rw [ti_eq]; omega
      rw [this]
  · rw [if_neg c, if_neg (fun d => c (by rw [ti_le]; have := ti_lt.1 d; omega))]
theorem st_of (hR : RT B t u) (hS : US u) (hN : UN u np nq) (hh : HH) (pp : PP) (a a' : Int32) : ∃ r, f_X3_of t hh pp a a' = some r ∧ f_X4_of u a a' = some r := by
  unfold f_X3_of f_X4_of f_X2_tellPerson
  rcases hasP hR hN a with ⟨k, hk, rfl, g1, g2⟩ | ⟨g1, g2⟩
  · have hk10 : k < 10 := by have := hN.1; omega
    rw [ob g1, ob g2, if_neg n10, if_neg n10]
    by_cases d0 : a' = 0
    · subst d0
      exact ⟨pv u k 0, by rw [if_pos rfl, ob (rdp0 hR hk10)]; rfl, by rw [if_pos rfl, ob (mp0 hk10)]⟩
    rw [if_neg d0, if_neg d0]
    by_cases d1 : a' = 1
    · subst d1
      exact ⟨pv u k 1, by rw [if_pos rfl, ob (rdp1 hR hk10)]; rfl, by rw [if_pos rfl, ob (mp1 hk10)]⟩
    rw [if_neg d1, if_neg d1]
    by_cases d2 : a' = 2
    · subst d2
      exact ⟨pv u k 2, by rw [if_pos rfl, ob (rdp2 hR hk10)]; rfl, by rw [if_pos rfl, ob (mp2 hk10)]⟩
    rw [if_neg d2, if_neg d2]
    by_cases d3 : a' = 3
    · subst d3
      exact ⟨_, by rw [if_pos rfl, ob (oathLeft_e hR hk10)]; rfl, by rw [if_pos rfl, ob (oathLeft4_e hS hN hk)]⟩
    rw [if_neg d3, if_neg d3]
    by_cases d4 : a' = 4
    · subst d4
      exact ⟨_, by rw [if_pos rfl, ob (qw_e hR hN (f := 0) (fun k hk => rq0 hR hk) (nI k))]; rfl, by rw [if_pos rfl, ob (parts_e hN (nI k) 4 (fun i => decide (qv u i 0 = nI k)) (fun i _ => by rw [if_pos rfl]; exact decide_eq_true_iff))]⟩
    rw [if_neg d4, if_neg d4]
    by_cases d5 : a' = 5
    · subst d5
      exact ⟨_, by rw [if_pos rfl, ob (qw_e hR hN (f := 1) (fun k hk => rq1 hR hk) (nI k))]; rfl, by rw [if_pos rfl, ob (parts_e hN (nI k) 5 (fun i => decide (qv u i 1 = nI k)) (fun i _ => by rw [if_neg (by decide), if_pos rfl]; exact decide_eq_true_iff))]⟩
    rw [if_neg d5, if_neg d5]
    by_cases d6 : a' = 6
    · subst d6
      exact ⟨_, by rw [if_pos rfl, ob (qw_e hR hN (f := 6) (fun k hk => rq6 hR hk) (nI k))]; rfl, by rw [if_pos rfl, ob (parts_e hN (nI k) 6 (fun i => decide (qv u i 6 = nI k)) (fun i _ => by rw [if_neg (by decide), if_neg (by decide), if_pos rfl]; exact decide_eq_true_iff))]⟩
    rw [if_neg d6, if_neg d6]
    by_cases d7 : a' = 7
    · subst d7
      exact ⟨_, by rw [if_pos rfl, ob (duelsOf_e hR hN (nI k))]; rfl, by rw [if_pos rfl, ob (parts_e hN (nI k) 7 (fun i => decide ((qv u i 0 = nI k ∨ qv u i 1 = nI k) ∧ qv u i 4 = 2)) (fun i _ => by rw [if_neg (by decide), if_neg (by decide), if_neg (by decide)]; exact decide_eq_true_iff))]⟩
    rw [if_neg d7, if_neg d7]
    by_cases d8 : a' = 8
    · subst d8
      obtain ⟨r, r1, r2⟩ := second_e hR hN (nI k)
      exact ⟨r, by rw [if_pos rfl, ob r1]; rfl, by rw [if_pos rfl, ob r2]⟩
    exact ⟨-2, by rw [if_neg d8]; rfl, by rw [if_neg d8]⟩
  · exact ⟨-1, by rw [ob g1, if_pos rfl]; rfl, by rw [ob g2, if_pos rfl]⟩
theorem st_quarrel (hR : RT B t u) (hS : US u) (hN : UN u np nq) (hh : HH) (pp : PP) (a a' : Int32) : ∃ r, f_X3_quarrel t hh pp a a' = some r ∧ f_X4_quarrel u a a' = some r := by
  unfold f_X3_quarrel f_X4_quarrel f_X2_tellQuarrel
  rcases hasQ hR hN a with ⟨k, hk, rfl, g1, g2⟩ | ⟨g1, g2⟩
  · have hk12 : k < 12 := by have := hN.2.1; omega
    rw [ob g1, ob g2, if_neg n10, if_neg n10]
    have out : ∀ w : Nat, w < 8 → f_X4_in (nI w) 0 7 = some 1 := by decide +kernel
    by_cases d0 : a' = 0
    · subst d0
      exact ⟨qv u k 0, by rw [if_pos rfl, ob (rq0 hR hk12)]; rfl, by rw [ob (show f_X4_in 0 0 7 = some 1 from out 0 (by decide)), if_neg n10, if_neg (by decide), if_neg (by decide), ob (mq0 hk12)]⟩
    by_cases d1 : a' = 1
    · subst d1
      exact ⟨qv u k 1, by rw [if_neg d0, if_pos rfl, ob (rq1 hR hk12)]; rfl, by rw [ob (show f_X4_in 1 0 7 = some 1 from out 1 (by decide)), if_neg n10, if_neg (by decide), if_neg (by decide), ob (mq1 hk12)]⟩
    by_cases d2 : a' = 2
    · subst d2
      exact ⟨qv u k 2, by rw [if_neg d0, if_neg d1, if_pos rfl, ob (rq2 hR hk12)]; rfl, by rw [ob (show f_X4_in 2 0 7 = some 1 from out 2 (by decide)), if_neg n10, if_neg (by decide), if_neg (by decide), ob (mq2 hk12)]⟩
    by_cases d3 : a' = 3
    · subst d3
      exact ⟨_, by rw [if_neg d0, if_neg d1, if_neg d2, if_pos rfl, ob (hoursSince_e hR hk12)]; rfl, by rw [ob (show f_X4_in 3 0 7 = some 1 from out 3 (by decide)), if_neg n10, if_pos rfl, ob (since_e hk12)]⟩
    by_cases d4 : a' = 4
    · subst d4
      exact ⟨qv u k 4, by rw [if_neg d0, if_neg d1, if_neg d2, if_neg d3, if_pos rfl, ob (rq4 hR hk12)]; rfl, by rw [ob (show f_X4_in 4 0 7 = some 1 from out 4 (by decide)), if_neg n10, if_neg (by decide), if_neg (by decide), ob (mq4 hk12)]⟩
    by_cases d5 : a' = 5
    · subst d5
      exact ⟨qv u k 5, by rw [if_neg d0, if_neg d1, if_neg d2, if_neg d3, if_neg d4, if_pos rfl, ob (rq5 hR hk12)]; rfl, by rw [ob (show f_X4_in 5 0 7 = some 1 from out 5 (by decide)), if_neg n10, if_neg (by decide), if_neg (by decide), ob (mq5 hk12)]⟩
    by_cases d6 : a' = 6
    · subst d6
      exact ⟨qv u k 6, by rw [if_neg d0, if_neg d1, if_neg d2, if_neg d3, if_neg d4, if_neg d5, if_pos rfl, ob (rq6 hR hk12)]; rfl, by rw [ob (show f_X4_in 6 0 7 = some 1 from out 6 (by decide)), if_neg n10, if_neg (by decide), if_neg (by decide), ob (mq6 hk12)]⟩
    by_cases d7 : a' = 7
    · subst d7
      obtain ⟨w, w1, w2⟩ := waysOf_e hR hS hN hk
      exact ⟨_, by rw [if_neg d0, if_neg d1, if_neg d2, if_neg d3, if_neg d4, if_neg d5, if_neg d6, if_pos rfl, ob w1]; rfl, by rw [ob (show f_X4_in 7 0 7 = some 1 from out 7 (by decide)), if_neg n10, if_neg (by decide), if_pos rfl, ob w2]⟩
    refine ⟨-2, by rw [if_neg d0, if_neg d1, if_neg d2, if_neg d3, if_neg d4, if_neg d5, if_neg d6, if_neg d7]; rfl, ?_⟩
    have hin : f_X4_in a' 0 7 = some 0 := by
      rw [in_e, if_pos]
      have j0 := mt ti_eq.2 d0
      have j1 := mt ti_eq.2 d1
      have j2 := mt ti_eq.2 d2
      have j3 := mt ti_eq.2 d3
      have j4 := mt ti_eq.2 d4
      have j5 := mt ti_eq.2 d5
      have j6 := mt ti_eq.2 d6
      have j7 := mt ti_eq.2 d7
      rw [show (0 : Int32).toInt = 0 from by decide] at j0
      rw [show (1 : Int32).toInt = 1 from by decide] at j1
      rw [show (2 : Int32).toInt = 2 from by decide] at j2
      rw [show (3 : Int32).toInt = 3 from by decide] at j3
      rw [show (4 : Int32).toInt = 4 from by decide] at j4
      rw [show (5 : Int32).toInt = 5 from by decide] at j5
      rw [show (6 : Int32).toInt = 6 from by decide] at j6
      rw [show (7 : Int32).toInt = 7 from by decide] at j7
      rw [ti_lt, ti_lt, show (0 : Int32).toInt = 0 from by decide, show (7 : Int32).toInt = 7 from by decide]
      omega
    rw [ob hin, if_pos rfl]
  · exact ⟨-1, by rw [ob g1, if_pos rfl]; rfl, by rw [ob g2, if_pos rfl]⟩
theorem qcount_e (hR : RT B t u) (hN : UN u np nq) (v : Int32) : ∃ r, f_X2_quarrelsWith t 92 v = some r ∧ ∃ z, f_X4_quarrelsThat u v = some z ∧ f_X4_size z = some r := by
  refine ⟨_, qw_e hR hN (f := 4) (fun k hk => rq4 hR hk) v, _, qthat_e hN v, ?_⟩
  rw [size_e, sz_fd hN.2.1]
theorem st_count (hR : RT B t u) (hS : US u) (hN : UN u np nq) {hh : HH} {pp : PP} {mm : MM} (hm : mm.1 = u) (hl : pp.2.1 = mm.2.2.2.2.2.2.2.1) (hk : hh.2.1 = mm.2.2.2.1) (a : Int32) : ∃ r, f_X3_count t hh pp a = some r ∧ f_X4_count mm a = some r := by
  unfold f_X3_count f_X4_count f_X2_tellNumber
  rw [hm]
  by_cases e13 : a = 13
  · subst e13
    exact ⟨_, by rw [if_pos rfl], by rw [hl]; rfl⟩
  by_cases e14 : a = 14
  · subst e14
    exact ⟨_, by rw [if_neg e13, if_pos rfl], by rw [hk]; rfl⟩
  rw [if_neg e13, if_neg e14]
  by_cases d0 : a = 0
  · exact ⟨u 4, by rw [if_pos d0, hR.1]; rfl, by rw [if_pos d0, ob ms4]⟩
  rw [if_neg d0, if_neg d0]
  by_cases d1 : a = 1
  · exact ⟨u 5, by rw [if_pos d1, hR.2.2.1]; rfl, by rw [if_pos d1, ob ms5]⟩
  rw [if_neg d1, if_neg d1]
  by_cases d2 : a = 2
  · exact ⟨u 47, by rw [if_pos d2, hR.2.2.2.1]; rfl, by rw [if_pos d2, ob ms47]⟩
  rw [if_neg d2, if_neg d2]
  by_cases d3 : a = 3
  · exact ⟨_, by rw [if_pos d3, ob (open_e hR hN)]; rfl, by rw [if_pos d3, ob (qthat_e hN 0)]⟩
  rw [if_neg d3, if_neg d3]
  by_cases d4 : a = 4
  · obtain ⟨r, r1, r2, _⟩ := due_e hR hS hN
    exact ⟨r, by rw [if_pos d4, ob r1]; rfl, by rw [if_pos d4, ob r2]⟩
  rw [if_neg d4, if_neg d4]
  by_cases d5 : a = 5
  · obtain ⟨r, r1, z, r2, r3⟩ := qcount_e hR hN 1
    exact ⟨r, by rw [if_pos d5, ob r1]; rfl, by rw [if_pos d5, ob r2, ob r3]⟩
  rw [if_neg d5, if_neg d5]
  by_cases d6 : a = 6
  · obtain ⟨r, r1, z, r2, r3⟩ := qcount_e hR hN 2
    exact ⟨r, by rw [if_pos d6, ob r1]; rfl, by rw [if_pos d6, ob r2, ob r3]⟩
  rw [if_neg d6, if_neg d6]
  by_cases d7 : a = 7
  · exact ⟨u 46, by rw [if_pos d7, hR.2.1]; rfl, by rw [if_pos d7, ob ms46]⟩
  rw [if_neg d7, if_neg d7]
  by_cases d8 : a = 8
  · obtain ⟨r, r1, r2⟩ := sworn_e hR hS hN
    exact ⟨r, by rw [if_pos d8, ob r1]; rfl, by rw [if_pos d8, ob r2]⟩
  rw [if_neg d8, if_neg d8]
  by_cases d9 : a = 9
  · subst d9
    exact ⟨u 0, by rw [if_pos rfl, ob (rs0 hR)]; rfl, by rw [if_pos rfl, ob (x4_g 0 (by decide) (by decide))]⟩
  rw [if_neg d9, if_neg d9]
  by_cases d10 : a = 10
  · subst d10
    exact ⟨u 1, by rw [if_pos rfl, ob (rs1 hR)]; rfl, by rw [if_pos rfl, ob (x4_g 1 (by decide) (by decide))]⟩
  rw [if_neg d10, if_neg d10]
  by_cases d11 : a = 11
  · subst d11
    exact ⟨u 2, by rw [if_pos rfl, ob (rs2 hR)]; rfl, by rw [if_pos rfl, ob (x4_g 2 (by decide) (by decide))]⟩
  rw [if_neg d11, if_neg d11]
  by_cases d12 : a = 12
  · subst d12
    exact ⟨u 3, by rw [if_pos rfl, ob (rs3 hR)]; rfl, by rw [if_pos rfl, ob (x4_g 3 (by decide) (by decide))]⟩
  rw [if_neg d12, if_neg d12]
  exact ⟨-2, rfl, by rw [if_neg e13, if_neg e14]⟩
end SI

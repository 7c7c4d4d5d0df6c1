/-! ways: peace, seconds, the set of ways -/
section SB
variable {B : Nat} {t : TT} {u : Nat → Int32} {np nq : Nat}
theorem nn7 : ∀ k, k < 12 → ¬ nI k = -7 := by decide
theorem nn6 : ∀ k, k < 12 → ¬ nI k = -6 := by decide
theorem peace_step {hour sett peace left later : Int} : (later ≤ (if left < sett + peace - hour then sett + peace - hour else left)) ↔ (later ≤ left ∨ hour + later - sett ≤ peace) := by
  split <;> omega
theorem peace_loop (hR : RT B t u) (hS : US u) (hN : UN u np nq) (a b but : Int32) (hb : ∀ k, k < nq → nI k = but → qv u k 4 ≠ 1) :
    ∀ (d k n : Nat) (left : Int32), k + d = nq → d < n → n ≤ 2000 → -1 ≤ left.toInt → left.toInt ≤ 10400 →
    ∃ L : Int32, -1 ≤ L.toInt ∧ L.toInt ≤ 10400 ∧ f_X2_peaceLeft_L5 t a b n left (nI k) = some L ∧
      ∀ later has : Int32, 0 ≤ later.toInt → later.toInt ≤ 500 → has = (if later.toInt ≤ left.toInt then 1 else 0) →
        f_X4_hasPeace_L6 u a b but later n has (nI k) = some (if later.toInt ≤ L.toInt then 1 else 0) := by
  have hq12 := hN.2.1
  intro d
  induction d with
  | zero =>
    intro k n left hk hn hn2 h1 h2
    obtain ⟨n, rfl⟩ : ∃ n', n = n' + 1 := ⟨n - 1, by omega⟩
    refine ⟨left, h1, h2, ?_, ?_⟩
    · rw [f_X2_peaceLeft_L5, if_pos ((nq_le hR hN (by omega)).2 (by omega))]
    · intro later has _ _ hh
      rw [f_X4_hasPeace_L6, ob ms47, if_pos ((mq_le hN (by omega)).2 (by omega)), hh]
  | succ d ih =>
    intro k n left hk hn hn2 h1 h2
    obtain ⟨n, rfl⟩ : ∃ n', n = n' + 1 := ⟨n - 1, by omega⟩
    have hk12 : k < 12 := by omega
    have hnk : nI k + 1 = nI (k + 1) := nI_1 k
    obtain ⟨_, _, _, h7⟩ := hN.2.2.2.2.2 k (by omega)
    rw [f_X2_peaceLeft_L5, if_neg (fun c => absurd ((nq_le hR hN (by omega)).1 c) (by omega)), ob (rq4 hR hk12)]
    by_cases hs : qv u k 4 = 1
    · rw [if_pos hs, ob (rq0 hR hk12), ob (rq1 hR hk12), ob (areThese_e _ _ _ _)]
      by_cases hth : TH a b (qv u k 0) (qv u k 1)
      · rw [if_pos hth, if_neg (by decide), ob (rq7 hR hk12), ob (rs3 hR), hnk, hR.1]
        have e1 : (qv u k 7 + u 3).toInt = (qv u k 7).toInt + (u 3).toInt := ti_add (by have := hS.2.2.2.1; omega) (by have := hS.2.2.2.1; omega)
        have e2 : (qv u k 7 + u 3 - u 4).toInt = (qv u k 7).toInt + (u 3).toInt - (u 4).toInt := by
          rw [ti_sub, e1] <;> rw [e1] <;> (have := hS.2.2.2.1; have := hS.2.2.2.2.1; omega)
        have e3 : (if left < qv u k 7 + u 3 - u 4 then qv u k 7 + u 3 - u 4 else left).toInt = if left.toInt < (qv u k 7).toInt + (u 3).toInt - (u 4).toInt then (qv u k 7).toInt + (u 3).toInt - (u 4).toInt else left.toInt := by
          by_cases hc : left < qv u k 7 + u 3 - u 4
          · have hc' := ti_lt.1 hc
            rw [e2] at hc'
            rw [if_pos hc, if_pos hc', e2]
          · have hc' := mt ti_lt.2 hc
            rw [e2] at hc'
            rw [if_neg hc, if_neg hc']
        obtain ⟨L, g1, g2, g3, g4⟩ := ih (k + 1) n (if left < qv u k 7 + u 3 - u 4 then qv u k 7 + u 3 - u 4 else left) (by omega) (by omega) (by omega) (by rw [e3]; split <;> omega) (by rw [e3]; have := hS.2.2.2.1; have := hS.2.2.2.2.1; split <;> omega)
        refine ⟨L, g1, g2, g3, ?_⟩
        intro later has hl1 hl2 hh
        rw [f_X4_hasPeace_L6, ob ms47, if_neg (fun c => absurd ((mq_le hN (by omega)).1 c) (by omega)), if_neg (fun c => hb k (by omega) c hs), ob (areOfThese_e hk12 _ _), if_pos hth, if_neg (by decide), ob (mq4 hk12), if_pos hs, ob rfl, hnk]
        have e4 : (u 4 + later - qv u k 7).toInt = (u 4).toInt + later.toInt - (qv u k 7).toInt := by
          have e5 : (u 4 + later).toInt = (u 4).toInt + later.toInt := ti_add (by have := hS.2.2.2.2.1; omega) (by have := hS.2.2.2.2.1; omega)
          rw [ti_sub, e5] <;> rw [e5] <;> (have := hS.2.2.2.2.1; omega)
        by_cases h0 : later.toInt ≤ left.toInt
        · rw [if_pos h0] at hh
          rw [if_neg (by rw [hh]; decide)]
          exact g4 later 1 hl1 hl2 (by rw [if_pos]; rw [e3]; exact peace_step.2 (Or.inl h0))
        · rw [if_neg h0] at hh
          rw [if_pos hh, if_neg (by decide), ob ms4, ob (mq7 hk12), ob ms3]
          by_cases h9 : u 3 < u 4 + later - qv u k 7
          · rw [if_pos h9]
            refine g4 later 0 hl1 hl2 (by rw [if_neg]; rw [e3]; intro c; have := peace_step.1 c; have := ti_lt.1 h9; rw [e4] at this; omega)
          · rw [if_neg h9]
            refine g4 later 1 hl1 hl2 (by rw [if_pos]; rw [e3]; refine peace_step.2 (Or.inr ?_); have := mt ti_lt.2 h9; rw [e4] at this; omega)
      · rw [if_neg hth, if_pos rfl, hnk]
        obtain ⟨L, g1, g2, g3, g4⟩ := ih (k + 1) n left (by omega) (by omega) (by omega) h1 h2
        refine ⟨L, g1, g2, g3, ?_⟩
        intro later has hl1 hl2 hh
        rw [f_X4_hasPeace_L6, ob ms47, if_neg (fun c => absurd ((mq_le hN (by omega)).1 c) (by omega)), if_neg (fun c => hb k (by omega) c hs), ob (areOfThese_e hk12 _ _), if_neg hth, if_pos rfl, ob rfl, hnk]
        by_cases h0 : later.toInt ≤ left.toInt
        · rw [if_pos h0] at hh
          rw [if_neg (by rw [hh]; decide)]
          exact g4 later 1 hl1 hl2 (by rw [if_pos h0])
        · rw [if_neg h0] at hh
          rw [if_pos hh, if_pos rfl]
          exact g4 later 0 hl1 hl2 (by rw [if_neg h0])
    · rw [if_neg hs, hnk]
      obtain ⟨L, g1, g2, g3, g4⟩ := ih (k + 1) n left (by omega) (by omega) (by omega) h1 h2
      refine ⟨L, g1, g2, g3, ?_⟩
      intro later has hl1 hl2 hh
      rw [f_X4_hasPeace_L6, ob ms47, if_neg (fun c => absurd ((mq_le hN (by omega)).1 c) (by omega))]
      have hv : (if nI k = but then some (0 : Int32) else ((f_X4_areOfThese u (nI k) a b).bind fun x15 => (if x15 = 0 then some (0 : Int32) else ((f_X4_quarrel0 u (nI k) (4 : Int32)).bind fun x18 => (if x18 = (1 : Int32) then some (1 : Int32) else some (0 : Int32)))))) = some 0 := by
        split
        · rfl
        · rw [ob (areOfThese_e hk12 _ _)]
          by_cases hth : TH a b (qv u k 0) (qv u k 1)
          · rw [if_pos hth, if_neg (by decide), ob (mq4 hk12), if_neg hs]
          · rw [if_neg hth, if_pos rfl]
      rw [ob hv, hnk]
      by_cases h0 : later.toInt ≤ left.toInt
      · rw [if_pos h0] at hh
        rw [if_neg (by rw [hh]; decide)]
        exact g4 later 1 hl1 hl2 (by rw [if_pos h0])
      · rw [if_neg h0] at hh
        rw [if_pos hh, if_pos rfl]
        exact g4 later 0 hl1 hl2 (by rw [if_neg h0])
theorem peace_e (hR : RT B t u) (hS : US u) (hN : UN u np nq) (a b : Int32) :
    ∃ L : Int32, -1 ≤ L.toInt ∧ L.toInt ≤ 10400 ∧ f_X2_peaceLeft t a b = some L ∧
      ∀ but later : Int32, (∀ k, k < nq → nI k = but → qv u k 4 ≠ 1) → 0 ≤ later.toInt → later.toInt ≤ 500 → f_X4_hasPeace u a b but later = some (if later.toInt ≤ L.toInt then 1 else 0) := by
  have hq := hN.2.1
  obtain ⟨L, g1, g2, g3, _⟩ := peace_loop hR hS hN a b (-7) (fun k hk c => absurd c (nn7 k (by omega))) nq 0 2000 (-1) (by omega) (by omega) (by omega) (by decide) (by decide)
  refine ⟨L, g1, g2, ?_, ?_⟩
  · unfold f_X2_peaceLeft
    rw [nI_0] at g3
    rw [ob g3]
  · intro but later hb hl1 hl2
    obtain ⟨L', g1', g2', g3', g4'⟩ := peace_loop hR hS hN a b but hb nq 0 2000 (-1) (by omega) (by omega) (by omega) (by decide) (by decide)
    have hL : L = L' := Option.some.inj (g3.symm.trans g3')
    subst hL
    unfold f_X4_hasPeace
    have h0 : ¬ later.toInt ≤ (-1 : Int32).toInt := by rw [ti_m1]; omega
    have g5 := g4' later 0 hl1 hl2 (by rw [if_neg h0])
    rw [nI_0] at g5
    rw [ob g5]
    split <;> rfl
end SB

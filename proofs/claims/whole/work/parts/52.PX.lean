/-! fault and carryOut -/
theorem JJ_PM {k : Nat} {t : TT} {hh : HH} {pp q : PP} {s0 s1 : Option TT} {mm : MM} (h : JJ k t hh pp s0 s1 mm) (q1 : q.1 = pp.1) (q2 : q.2.1 = pp.2.1) (a : Nat) (w : Int32) : JJ k t hh q s0 s1 (PM mm a w) := by
  obtain ⟨h0, h1, h2, h3, ⟨n, p1, p2, p3, p4, p5⟩, h5, h6⟩ := h
  refine ⟨h0, h1, h2, h3, ⟨n, p1, q2.trans p2, p3, fun i hi => ?_, fun i hi => ?_⟩, h5, h6⟩
  · rw [q1]; exact p4 i hi
  · rw [q1]; exact p5 i hi
theorem fault_both {k : Nat} {t : TT} {hh : HH} {pp : PP} {s0 s1 : Option TT} {mm : MM} (h : JJ k t hh pp s0 s1 mm) :
    ∃ r q y' a' w' n, f_X1_firstFault pp = some (r, q) ∧ q.1 = pp.1 ∧ q.2.1 = pp.2.1 ∧ f_X4_go mm 0 = some (y', PM mm a' w') ∧ n ≤ 80 ∧ pp.2.1 = nI n ∧ mm.2.2.2.2.2.2.2.1 = nI n ∧ (∀ i, i < n → pp.1 i = mm.2.2.2.2.2.2.1 i) ∧ a' ≤ n ∧ ((w' = 0 ∧ r = -6 ∧ TX pp mm.2.2.2.2.2.2.1 n (n + 1) 0) ∨ (w' = 1 ∧ r = nI a')) := by
  obtain ⟨_, _, _, _, ⟨n, p1, p2, p3, p4, p5⟩, _, _⟩ := h
  obtain ⟨r, q, y', a', w', z1, z2, z3, z4, z5, z6⟩ := fault_loop (mm := mm) p2 p1 p4 rfl p3 n 0 0 2000 2000 pp.2.2.2.1 pp.2.2.2.2.2 pp.2.2.2.2.1 0 (by omega) (by omega) (by omega) (by omega) (by omega)
  exact ⟨r, q, y', a', w', n, z1, z2, z3, z4, p1, p2, p3, p4, z5, z6⟩
theorem J_fault : St_fault JJ := by
  intro k t hh pp s0 s1 mm hk h
  obtain ⟨r, q, y', a', w', n, z1, z2, z3, z4, z5, z6, z7, z8, z9, z10⟩ := fault_both h
  unfold f_X3_fault f_X4_fault
  rw [ob z1, ob z4]
  rcases z10 with ⟨rfl, rfl, _⟩ | ⟨rfl, rfl⟩
  · exact ⟨(-6, q), (-6, PM mm a' 0), rfl, if_pos rfl, rfl, JJ_none hk (JJ_PM h z2 z3 a' 0)⟩
  · exact ⟨(nI a', q), (nI a', PM mm a' 1), rfl, if_neg n10, rfl, JJ_none hk (JJ_PM h z2 z3 a' 1)⟩
theorem carry_loop {pp : PP} {n : Nat} {g : Nat → Int32} (hl : pp.2.1 = nI n) (hn : n ≤ 80) (hg : ∀ i, i < n → pp.1 i = g i) (hh : HH) : ∀ (k a j n1 n2 B : Nat) (l w : Int32) (f : Nat → Int32) (t : TT) (mm : MM), TX pp g n k a → a ≤ n → 3 * j ≤ a → k + 1 < n1 → k + 1 < n2 → mm.2.2.2.2.2.2.1 = g → mm.2.2.2.2.2.2.2.1 = nI n → B + k < 1000000 → RT B t mm.1 → UI mm.1 →
    ∃ y a' t' u' q, a' ≤ n ∧ f_X3_carryOut_L38 n1 t hh (QW pp l a w f) (nI j) (nI j) = ((f_X0_keepUnlessError hh (nI y)).bind fun x7 => some (x7.1, t', x7.2, P1 q 0)) ∧ q.1 = pp.1 ∧ f_X4_go_L14 1 n2 (PM mm a 0) (nI j) 1 = some (nI y, M0 (PM mm a' 0) u') ∧ RT (B + k) t' u' ∧ UI u' := by
  intro k
  induction k with
  | zero => intro a j n1 n2 B l w f t mm hT; exact absurd hT id
  | succ k ih =>
    intro a j n1 n2 B l w f t mm hT e2 e3 e4 e5 h1 h2 hB hR hU
    obtain ⟨n1, rfl⟩ : ∃ n', n1 = n' + 1 := ⟨n1 - 1, by omega⟩
    obtain ⟨n2, rfl⟩ : ∃ n', n2 = n' + 1 := ⟨n2 - 1, by omega⟩
    obtain ⟨b, b1, b2, b3, b4⟩ := hT
    obtain ⟨l1, m1, f1, r1, r2⟩ := b3 l w f
    obtain ⟨r, r', t1, u1, x1, x2, x3, x4, x5⟩ := r2 mm h1 h2 hh B t (by omega) hR hU
    have h80 : ¬ (80 : Int32) ≤ nI j := by rw [show (80 : Int32) = nI 80 from rfl]; exact nI_ge (by omega) (by decide)
    rw [f_X3_carryOut_L38, f_X4_go_L14, if_neg h80, if_neg n10, ob r1, ob x2, if_neg n10, ob x1, ob (isError_e r)]
    by_cases hE : IsE r
    · have hE' := x5.1 hE
      rw [if_pos hE, if_neg n10, if_neg hE'.1, if_neg hE'.2]
      exact ⟨j, b, t1, u1, QS pp l1 b m1 f1, b2, rfl, rfl, rfl, x3.mono (by omega), x4⟩
    · have hE' : ¬ IsE r' := fun e => hE (x5.2 e)
      rw [if_neg hE, if_pos rfl]
      have hst : f_X1_stepOverSemicolon (QS pp l1 b m1 f1) = some (if Sg pp.1 n b = 59 then QS pp l1 (b + 1) m1 f1 else QS pp l1 b m1 f1) := by
        unfold f_X1_stepOverSemicolon
        show ((f_X1_signAt (QS pp l1 b m1 f1) (nI b)).bind fun x1 => _) = _
        rw [ob (signAt_e (q := QS pp l1 b m1 f1) hl hn (by omega))]
        by_cases cs : Sg pp.1 n b = 59
        · rw [if_pos cs, if_pos cs]
          show some (P2 _ (nI b + 1)) = _
          rw [nI_1]
          rfl
        · rw [if_neg cs, if_neg cs]
      rw [ob hst]
      have hX : f_X4_go_L14 1 (n2 + 1) (PM mm a 0) (nI j) 1 = (((if mm.2.2.2.2.2.2.2.1 ≤ nI b then some (0 : Int32) else some (1 : Int32)) : Option Int32).bind fun v5 => (if v5 = 0 then f_X4_go_L14 1 n2 (PM (M0 mm u1) b 0) (nI j + (1 : Int32)) v5 else ((f_X4_sign (PM (M0 mm u1) b 0) (59 : Int32) (59 : Int32)).bind fun x7 => (if x7.2.2.2.2.2.2.2.2.2.2 = 0 then f_X4_go_L14 1 n2 x7.2 (nI j + (1 : Int32)) (1 : Int32) else f_X4_go_L14 1 n2 x7.2 (nI j + (1 : Int32)) (0 : Int32))))) := by
        rw [f_X4_go_L14, if_neg n10, ob x2]
        by_cases c0 : 0 ≤ r'
        · rw [if_pos c0]; rfl
        · rw [if_neg c0, if_pos (Classical.byContradiction (fun e => hE' ⟨c0, e⟩))]; rfl
      have hX' := hX
      rw [f_X4_go_L14, if_neg n10, ob x2] at hX'
      rw [hX', h2, nI_1]
      rcases b4 with rfl | ⟨c, cs, hT2⟩
      · rw [if_pos (nI_le (Nat.le_refl b) (by omega)), ob rfl, if_pos rfl]
        obtain ⟨n1, rfl⟩ : ∃ n', n1 = n' + 1 := ⟨n1 - 1, by omega⟩
        obtain ⟨n2, rfl⟩ : ∃ n', n2 = n' + 1 := ⟨n2 - 1, by omega⟩
        have es : Sg pp.1 b b = 0 := if_neg (Nat.lt_irrefl b)
        rw [es, if_neg (by decide), f_X4_go_L14, if_pos rfl, f_X3_carryOut_L38, if_neg (by rw [show (80 : Int32) = nI 80 from rfl]; exact nI_ge (by omega) (by decide))]
        have hro : f_X1_readOrder (QS pp l1 b m1 f1) = some (0, QS pp (Sg pp.1 b b) b 0 f1) := readOrder_6 (w := nI m1) hl hn (by omega) (by rw [es]; decide)
        rw [ob hro, if_pos rfl]
        exact ⟨j + 1, b, t1, u1, QS pp (Sg pp.1 b b) b 0 f1, Nat.le_refl b, rfl, rfl, rfl, x3.mono (by omega), x4⟩
      · have es : Sg pp.1 n b = Sg g n b := by
          unfold Sg
          rw [if_pos c, if_pos c]; exact hg b c
        have cs2 : (59 : Int32) ≤ Sg g n b ∧ Sg g n b ≤ 59 := by rw [cs]; decide
        have hsg := sign_0 (mm := M0 mm u1) (a := b) h2 hn (by omega) (lo := 59) (hi := 59) (by decide)
        have hgg : (M0 mm u1).2.2.2.2.2.2.1 = g := h1
        rw [hgg, if_pos cs2] at hsg
        rw [es, if_pos cs, if_neg (nI_ge c (by omega)), ob rfl, if_neg n10, ob hsg, if_pos (show ((Sg g n b, PM (M0 mm u1) (b + 1) 0) : Int32 × MM).2.2.2.2.2.2.2.2.2.2 = 0 from rfl)]
        obtain ⟨y, a', t', u', q, q1, q2, q3, q4, q5, q6⟩ := ih (b + 1) (j + 1) n1 n2 (B + 1) l1 (nI m1) f1 t1 (M0 mm u1) hT2 (by omega) (by omega) (by omega) (by omega) h1 h2 (by omega) x3 x4
        exact ⟨y, a', t', u', q, q1, q2, q3, q4, by rw [show B + (k + 1) = B + 1 + k from by omega]; exact q5, q6⟩

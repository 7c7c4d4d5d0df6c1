/-! the fault of the pad: both alike -/
def RD (pp : PP) (g : Nat → Int32) (n a a' : Nat) : Prop := ∀ l w f, ∃ l1 m1 f1, f_X1_readOrder (QW pp l a w f) = some (1, QS pp l1 a' m1 f1) ∧ ∀ mm : MM, mm.2.2.2.2.2.2.1 = g → mm.2.2.2.2.2.2.2.1 = nI n → ∀ hh, EX hh (QS pp l1 a' m1 f1) mm a a'
/-- the text from a place on has no fault -/
def TX (pp : PP) (g : Nat → Int32) (n : Nat) : Nat → Nat → Prop
  | 0, _ => False
  | k + 1, a => ∃ a', a + 2 ≤ a' ∧ a' ≤ n ∧ RD pp g n a a' ∧ (a' = n ∨ (a' < n ∧ Sg g n a' = 59 ∧ TX pp g n k (a' + 1)))
section PW
variable {pp : PP} {n : Nat} {g : Nat → Int32} {mm : MM}
theorem RD_of (hl : pp.2.1 = nI n) (hn : n ≤ 80) (hg : ∀ i, i < n → pp.1 i = g i) (h1 : mm.2.2.2.2.2.2.1 = g) (h2 : mm.2.2.2.2.2.2.2.1 = nI n) {a a' : Nat} (ha : a ≤ n) (ha' : a' ≤ n) (ho : f_X4_order (PM mm a 0) 0 = some (0, PM mm a' 0)) : RD pp g n a a' := by
  intro l w f
  rcases order_both (l := l) (w := w) (f := f) hl hn hg ha with ⟨b, l1, m1, f1, b1, b2, b3, b4⟩ | ⟨b, l1, m1, f1, b2, b3, b4⟩
  · have e := Option.some.inj (ho.symm.trans (b4 mm h1 h2).1)
    have e2 : nI a' = nI b := congrArg (fun z : Int32 × MM => z.2.2.2.2.2.2.2.2.2.1) e
    have e3 := (nI_eq (by omega) (by omega)).1 e2
    subst e3
    exact ⟨l1, m1, f1, b3, fun mm' h3 h4 => (b4 mm' h3 h4).2⟩
  · exfalso
    have e := Option.some.inj (ho.symm.trans (b4 mm h1 h2))
    have e2 : (0 : Int32) = 1 := congrArg (fun z : Int32 × MM => z.2.2.2.2.2.2.2.2.2.2) e
    exact absurd e2 (by decide)
theorem fault_loop (hl : pp.2.1 = nI n) (hn : n ≤ 80) (hg : ∀ i, i < n → pp.1 i = g i) (h1 : mm.2.2.2.2.2.2.1 = g) (h2 : mm.2.2.2.2.2.2.2.1 = nI n) : ∀ (d a j n1 n2 : Nat) (l w : Int32) (f : Nat → Int32) (y : Int32), n ≤ a + d → a ≤ n → 3 * j ≤ a → d < n1 → d + 1 < n2 →
    ∃ r q y' a' w', f_X1_firstFault_L7 n1 (QW pp l a w f) (nI j) = some (r, q) ∧ q.1 = pp.1 ∧ q.2.1 = pp.2.1 ∧ f_X4_go_L14 0 n2 (PM mm a 0) y 1 = some (y', PM mm a' w') ∧ a' ≤ n ∧ ((w' = 0 ∧ r = -6 ∧ TX pp g n (d + 1) a) ∨ (w' = 1 ∧ r = nI a')) := by
  intro d
  induction d using Nat.strongRecOn with
  | _ d ih =>
    intro a j n1 n2 l w f y e1 e2 e3 e4 e5
    obtain ⟨n1, rfl⟩ : ∃ n', n1 = n' + 1 := ⟨n1 - 1, by omega⟩
    obtain ⟨n2, rfl⟩ : ∃ n', n2 = n' + 1 := ⟨n2 - 1, by omega⟩
    have h80 : ¬ (80 : Int32) ≤ nI j := by rw [show (80 : Int32) = nI 80 from rfl]; exact nI_ge (by omega) (by decide)
    rw [f_X1_firstFault_L7, f_X4_go_L14, if_neg h80, if_neg n10]
    rcases order_both (l := l) (w := w) (f := f) hl hn hg e2 with ⟨b, l1, m1, f1, b1, b2, b3, b4⟩ | ⟨b, l1, m1, f1, b2, b3, b4⟩
    · have ho := (b4 mm h1 h2).1
      have hrd := RD_of hl hn hg h1 h2 e2 b2 ho
      rw [ob b3, ob ho]
      show ∃ r q y' a' w', (if (1 : Int32) = 0 then _ else (if nI b < pp.2.1 then ((f_X1_signAt (QS pp l1 b m1 f1) (nI b)).bind fun x6 => (if x6 = (59 : Int32) then f_X1_firstFault_L7 n1 (P2 (QS pp l1 b m1 f1) (nI b + (1 : Int32))) (nI j + (1 : Int32)) else some (nI b, QS pp l1 b m1 f1))) else some ((-6 : Int32), QS pp l1 b m1 f1))) = some (r, q) ∧ q.1 = pp.1 ∧ q.2.1 = pp.2.1 ∧
        (if (0 : Int32) ≤ 0 then (((if (0 : Int32) = 0 then (if mm.2.2.2.2.2.2.2.1 ≤ nI b then some (0 : Int32) else some (1 : Int32)) else some (0 : Int32)) : Option Int32).bind fun v5 => (if v5 = 0 then f_X4_go_L14 0 n2 (PM mm b 0) (y + (1 : Int32)) v5 else ((f_X4_sign (PM mm b 0) (59 : Int32) (59 : Int32)).bind fun x7 => (if x7.2.2.2.2.2.2.2.2.2.2 = 0 then f_X4_go_L14 0 n2 x7.2 (y + (1 : Int32)) (1 : Int32) else f_X4_go_L14 0 n2 x7.2 (y + (1 : Int32)) (0 : Int32))))) else _) = some (y', PM mm a' w') ∧ a' ≤ n ∧ ((w' = 0 ∧ r = -6 ∧ TX pp g n (d + 1) a) ∨ (w' = 1 ∧ r = nI a'))
      rw [if_neg n10, if_pos (show (0 : Int32) ≤ 0 by decide), if_pos rfl, hl, h2]
      obtain ⟨n2, rfl⟩ : ∃ n', n2 = n' + 1 := ⟨n2 - 1, by omega⟩
      by_cases c : b < n
      · rw [if_pos (nI_lt c (by omega)), if_neg (nI_ge c (by omega)), ob rfl, if_neg n10, ob (signAt_e (q := QS pp l1 b m1 f1) hl hn (by omega))]
        have es : Sg pp.1 n b = Sg g n b := by
          unfold Sg
          rw [if_pos c, if_pos c]; exact hg b c
        show ∃ r q y' a' w', (if Sg pp.1 n b = (59 : Int32) then f_X1_firstFault_L7 n1 (P2 (QS pp l1 b m1 f1) (nI b + (1 : Int32))) (nI j + (1 : Int32)) else some (nI b, QS pp l1 b m1 f1)) = some (r, q) ∧ _
        rw [es, sign_0 h2 hn (by omega) (by decide), h1]
        by_cases cs : Sg g n b = 59
        · have cs2 : (59 : Int32) ≤ Sg g n b ∧ Sg g n b ≤ 59 := by rw [cs]; decide
          rw [if_pos cs, if_pos cs2, ob rfl]
          rw [nI_1, nI_1]
          show ∃ r q y' a' w', f_X1_firstFault_L7 n1 (QW pp l1 (b + 1) (nI m1) f1) (nI (j + 1)) = some (r, q) ∧ q.1 = pp.1 ∧ q.2.1 = nI n ∧ (if (0 : Int32) = 0 then f_X4_go_L14 0 (n2 + 1) (PM mm (b + 1) 0) (y + (1 : Int32)) (1 : Int32) else _) = some (y', PM mm a' w') ∧ _
          rw [if_pos rfl]
          obtain ⟨r, q, y', a', w', q1, q2, q3, q4, q5, q6⟩ := ih (d - 1) (by omega) (b + 1) (j + 1) n1 (n2 + 1) l1 (nI m1) f1 (y + 1) (by omega) (by omega) (by omega) (by omega) (by omega)
          refine ⟨r, q, y', a', w', q1, q2, q3.trans hl, q4, q5, ?_⟩
          rcases q6 with ⟨z1, z2, z3⟩ | z
          · refine Or.inl ⟨z1, z2, b, b1, b2, hrd, Or.inr ⟨c, cs, ?_⟩⟩
            rw [show d - 1 + 1 = d from by omega] at z3
            exact z3
          · exact Or.inr z
        · have cs2 : ¬ ((59 : Int32) ≤ Sg g n b ∧ Sg g n b ≤ 59) := fun d => cs (by
            have d1 := ti_le.1 d.1
            have d2 := ti_le.1 d.2
            rw [ti_eq]; omega)
          rw [if_neg cs, if_neg cs2, ob rfl]
          show ∃ r q y' a' w', some (nI b, QS pp l1 b m1 f1) = some (r, q) ∧ q.1 = pp.1 ∧ q.2.1 = nI n ∧ (if (1 : Int32) = 0 then _ else f_X4_go_L14 0 (n2 + 1) (PM mm b 1) (y + (1 : Int32)) (0 : Int32)) = some (y', PM mm a' w') ∧ _
          rw [if_neg n10, f_X4_go_L14, if_pos rfl]
          exact ⟨_, _, _, b, 1, rfl, rfl, hl, rfl, b2, Or.inr ⟨rfl, rfl⟩⟩
      · obtain rfl : b = n := by omega
        rw [if_neg (nI_nlt (Nat.le_refl b) (by omega)), if_pos (nI_le (Nat.le_refl b) (by omega)), ob rfl, if_pos rfl, f_X4_go_L14, if_pos rfl]
        exact ⟨_, _, _, b, 0, rfl, rfl, hl, rfl, Nat.le_refl b, Or.inl ⟨rfl, rfl, b, b1, Nat.le_refl b, hrd, Or.inl rfl⟩⟩
    · have ho := b4 mm h1 h2
      rw [ob b3, ob ho]
      obtain ⟨n2, rfl⟩ : ∃ n', n2 = n' + 1 := ⟨n2 - 1, by omega⟩
      show ∃ r q y' a' w', (if (0 : Int32) = 0 then some (nI b, QS pp l1 b m1 f1) else _) = some (r, q) ∧ q.1 = pp.1 ∧ q.2.1 = pp.2.1 ∧
        (if (0 : Int32) ≤ 0 then (((if (1 : Int32) = 0 then _ else some (0 : Int32)) : Option Int32).bind fun v5 => (if v5 = 0 then f_X4_go_L14 0 (n2 + 1) (PM mm b 1) (y + (1 : Int32)) v5 else _)) else _) = some (y', PM mm a' w') ∧ _
      rw [if_pos rfl, if_pos (show (0 : Int32) ≤ 0 by decide), if_neg n10, ob rfl, if_pos rfl, f_X4_go_L14, if_pos rfl]
      exact ⟨_, _, _, b, 1, rfl, rfl, rfl, rfl, b2, Or.inr ⟨rfl, rfl⟩⟩
end PW

/-! reading an order: the loop over its form -/
def run : List Int32 → PP → Option (Int32 × PP)
  | [], q => some (1, q)
  | z :: zs, q => (f_X1_readPart q z).bind fun x => if x.1 = 0 then some (0, x.2) else run zs x.2
theorem l46_e {i n j : Nat} {len : Int32} (hlen : f_J0_length_8abf5 i = some len) (hj : len ≤ nI j) (q : PP) : f_X1_readOrder_L46 i (n + 1) q (nI j) = run [] q := by
  rw [f_X1_readOrder_L46, ob hlen, if_pos hj]
  rfl
theorem l46_s {i n j : Nat} {len z : Int32} {zs : List Int32} (hlen : f_J0_length_8abf5 i = some len) (hj : ¬ len ≤ nI j) (hz : f_J0_charAt_5068e i (nI j) = some z) (ih : ∀ q, f_X1_readOrder_L46 i n q (nI (j + 1)) = run zs q) (q : PP) :
    f_X1_readOrder_L46 i (n + 1) q (nI j) = run (z :: zs) q := by
  rw [f_X1_readOrder_L46, ob hlen, if_neg hj, ob hz, run]
  refine congrArg (f_X1_readPart q z).bind ?_
  funext x
  by_cases h : x.1 = 0
  · rw [if_pos h, if_pos h]
  · rw [if_neg h, if_neg h, nI_1, ih]
theorem form_0 (q : PP) : f_X1_readOrder_L46 0 2000 q (nI 0) = run [100, 100] q := l46_s (len := 2) (by decide +kernel) (by decide) (by decide +kernel) (l46_s (len := 2) (by decide +kernel) (by decide) (by decide +kernel) (l46_e (len := 2) (by decide +kernel) (by decide))) q
theorem form_1 (q : PP) : f_X1_readOrder_L46 1 2000 q (nI 0) = run [100, 62, 100] q := l46_s (len := 3) (by decide +kernel) (by decide) (by decide +kernel) (l46_s (len := 3) (by decide +kernel) (by decide) (by decide +kernel) (l46_s (len := 3) (by decide +kernel) (by decide) (by decide +kernel) (l46_e (len := 3) (by decide +kernel) (by decide)))) q
theorem form_2 (q : PP) : f_X1_readOrder_L46 2 2000 q (nI 0) = run [100, 100, 47, 100] q := l46_s (len := 4) (by decide +kernel) (by decide) (by decide +kernel) (l46_s (len := 4) (by decide +kernel) (by decide) (by decide +kernel) (l46_s (len := 4) (by decide +kernel) (by decide) (by decide +kernel) (l46_s (len := 4) (by decide +kernel) (by decide) (by decide +kernel) (l46_e (len := 4) (by decide +kernel) (by decide))))) q
theorem form_3 (q : PP) : f_X1_readOrder_L46 3 2000 q (nI 0) = run [110, 46, 100] q := l46_s (len := 3) (by decide +kernel) (by decide) (by decide +kernel) (l46_s (len := 3) (by decide +kernel) (by decide) (by decide +kernel) (l46_s (len := 3) (by decide +kernel) (by decide) (by decide +kernel) (l46_e (len := 3) (by decide +kernel) (by decide)))) q
theorem form_4 (q : PP) : f_X1_readOrder_L46 4 2000 q (nI 0) = run [110] q := l46_s (len := 1) (by decide +kernel) (by decide) (by decide +kernel) (l46_e (len := 1) (by decide +kernel) (by decide)) q
theorem form_5 (q : PP) : f_X1_readOrder_L46 5 2000 q (nI 0) = run [100] q := l46_s (len := 1) (by decide +kernel) (by decide) (by decide +kernel) (l46_e (len := 1) (by decide +kernel) (by decide)) q
theorem i6 {c : Prop} [Decidable c] {z : Option Nat} (h : z = some 6) : (if c then some 6 else z) = some 6 := by
  by_cases hc : c
  · rw [if_pos hc]
  · rw [if_neg hc]; exact h
theorem formOf_6 {x : Int32} (h : ¬ (x = 112 ∨ x = 115 ∨ x = 105 ∨ x = 119 ∨ x = 102 ∨ x = 111 ∨ x = 116 ∨ x = 97)) : f_X1_formOf x = some 6 := by
  unfold f_X1_formOf
  refine (if_neg (fun e : x = 97 => h (by simp [e]))).trans ?_
  refine i6 ?_
  refine i6 ?_
  refine i6 ?_
  refine i6 ?_
  refine (if_neg (fun e : x = 102 => h (by simp [e]))).trans ?_
  refine i6 ?_
  refine i6 ?_
  refine (if_neg (fun e : x = 105 => h (by simp [e]))).trans ?_
  refine i6 ?_
  refine i6 ?_
  refine i6 ?_
  refine i6 ?_
  refine i6 ?_
  refine (if_neg (fun e : x = 111 => h (by simp [e]))).trans ?_
  refine (if_neg (fun e : x = 112 => h (by simp [e]))).trans ?_
  refine i6 ?_
  refine i6 ?_
  refine (if_neg (fun e : x = 115 => h (by simp [e]))).trans ?_
  refine (if_neg (fun e : x = 116 => h (by simp [e]))).trans ?_
  refine i6 ?_
  refine i6 ?_
  refine (if_neg (fun e : x = 119 => h (by simp [e]))).trans ?_
  rfl
section PT
variable {pp : PP} {n a m : Nat} {l : Int32} {f : Nat → Int32}
abbrev QW (pp : PP) (l : Int32) (a : Nat) (w : Int32) (f : Nat → Int32) : PP := (pp.1, pp.2.1, nI a, l, f, w)
variable {w : Int32}
theorem readOrder_e (hl : pp.2.1 = nI n) (hn : n ≤ 80) (ha : a ≤ 80) {i : Nat} {x : Int32} (hx : Sg pp.1 n a = x) (hi : f_X1_formOf x = some i) (h6 : f_J0_isEmpty_aae02 i = some 0) : f_X1_readOrder (QW pp l a w f) = f_X1_readOrder_L46 i 2000 (QS pp x (a + 1) 0 f) (nI 0) := by
  have hs : f_X1_signAt (QW pp l a w f) (QW pp l a w f).2.2.1 = some x := hx ▸ signAt_e (q := QW pp l a w f) hl hn ha
  unfold f_X1_readOrder
  rw [ob hs]
  show ((f_X1_formOf x).bind fun x3 => _) = _
  rw [ob hi, ob h6, if_pos rfl]
  show f_X1_readOrder_L46 i 2000 (P2 (QS pp x a 0 f) (nI a + 1)) 0 = _
  rw [nI_1, nI_0]
  rfl
theorem readOrder_6 (hl : pp.2.1 = nI n) (hn : n ≤ 80) (ha : a ≤ 80) (hi : f_X1_formOf (Sg pp.1 n a) = some 6) : f_X1_readOrder (QW pp l a w f) = some (0, QS pp (Sg pp.1 n a) a 0 f) := by
  have hs : f_X1_signAt (QW pp l a w f) (QW pp l a w f).2.2.1 = some (Sg pp.1 n a) := signAt_e (q := QW pp l a w f) hl hn ha
  have h6 : f_J0_isEmpty_aae02 6 = some 1 := by decide +kernel
  unfold f_X1_readOrder
  rw [ob hs]
  show ((f_X1_formOf (Sg pp.1 n a)).bind fun x3 => _) = _
  rw [ob hi, ob h6, if_neg n10]
  rfl
/-- a digit: both alike -/
theorem dig_both (hl : pp.2.1 = nI n) (hn : n ≤ 80) {g : Nat → Int32} (hg : ∀ i, i < n → pp.1 i = g i) (ha : a ≤ n) (hm : m < 3) :
    (∃ v, a + 1 ≤ n ∧ (0 ≤ v ∧ v ≤ 9) ∧ f_X1_readPart (QS pp l a m f) 100 = some (1, QS pp l (a + 1) (m + 1) (upd f m v)) ∧ ∀ mm : MM, mm.2.2.2.2.2.2.1 = g → mm.2.2.2.2.2.2.2.1 = nI n → f_X4_digit (PM mm a 0) = some (v, PM mm (a + 1) 0)) ∨
    (f_X1_readPart (QS pp l a m f) 100 = some (0, QS pp l a m f) ∧ ∀ mm : MM, mm.2.2.2.2.2.2.1 = g → mm.2.2.2.2.2.2.2.1 = nI n → ∃ v, f_X4_digit (PM mm a 0) = some (v, PM mm a 1)) := by
  have es : Sg pp.1 n a = Sg g n a := by
    unfold Sg
    by_cases c : a < n
    · rw [if_pos c, if_pos c]; exact hg a c
    · rw [if_neg c, if_neg c]
  rw [readPart_d hl hn (by omega) hm, es]
  by_cases c : Dg (Sg g n a)
  · have hlt := Sg_lt c
    have c1 := ti_le.1 c.1
    have c2 := ti_le.1 c.2
    rw [show (48 : Int32).toInt = 48 from by decide] at c1
    rw [show (57 : Int32).toInt = 57 from by decide] at c2
    have ev : (Sg g n a - 48).toInt = (Sg g n a).toInt - 48 := by
      have := ti_sub (x := Sg g n a) (y := 48) (by rw [show (48 : Int32).toInt = 48 from by decide]; omega) (by rw [show (48 : Int32).toInt = 48 from by decide]; omega)
      rw [show (48 : Int32).toInt = 48 from by decide] at this
      exact this
    refine Or.inl ⟨Sg g n a - 48, by omega, ⟨by rw [ti_le, ev, ti_0]; omega, by rw [ti_le, ev, ti_9]; omega⟩, by rw [if_pos c], fun mm h1 h2 => ?_⟩
    subst h1
    rw [digit_0 h2 hn (by omega), if_pos c]
  · refine Or.inr ⟨by rw [if_neg c], fun mm h1 h2 => ?_⟩
    subst h1
    exact ⟨_, by rw [digit_0 h2 hn (by omega), if_neg c]⟩
theorem num_both (hl : pp.2.1 = nI n) (hn : n ≤ 80) {g : Nat → Int32} (hg : ∀ i, i < n → pp.1 i = g i) (ha : a ≤ n) (hm : m < 3) :
    (∃ v a1, a + 1 ≤ a1 ∧ a1 ≤ n ∧ f_X1_readPart (QS pp l a m f) 110 = some (1, QS pp l a1 (m + 1) (upd f m v)) ∧ ∀ mm : MM, mm.2.2.2.2.2.2.1 = g → mm.2.2.2.2.2.2.2.1 = nI n → f_X4_number (PM mm a 0) = some (v, PM mm a1 0)) ∨
    (f_X1_readPart (QS pp l a m f) 110 = some (0, QS pp l a m f) ∧ ∀ mm : MM, mm.2.2.2.2.2.2.1 = g → mm.2.2.2.2.2.2.2.1 = nI n → ∃ v, f_X4_number (PM mm a 0) = some (v, PM mm a 1)) := by
  have es : ∀ b, Sg pp.1 n b = Sg g n b := by
    intro b
    unfold Sg
    by_cases c : b < n
    · rw [if_pos c, if_pos c]; exact hg b c
    · rw [if_neg c, if_neg c]
  rw [readPart_n hl hn (by omega) hm, es, es]
  by_cases c : Dg (Sg g n a)
  · have hlt := Sg_lt c
    by_cases d : ¬ (Sg g n a - 48 ≤ 0) ∧ Dg (Sg g n (a + 1))
    · have hlt2 := Sg_lt d.2
      refine Or.inl ⟨_, a + 2, by omega, by omega, by rw [if_pos c, if_pos d], fun mm h1 h2 => ?_⟩
      subst h1
      rw [number_0 h2 hn (by omega), if_pos c, if_pos d]
    · refine Or.inl ⟨_, a + 1, by omega, by omega, by rw [if_pos c, if_neg d], fun mm h1 h2 => ?_⟩
      subst h1
      rw [number_0 h2 hn (by omega), if_pos c, if_neg d]
  · refine Or.inr ⟨by rw [if_neg c], fun mm h1 h2 => ?_⟩
    subst h1
    exact ⟨_, by rw [number_0 h2 hn (by omega), if_neg c]⟩
theorem sig_both (hl : pp.2.1 = nI n) (hn : n ≤ 80) {g : Nat → Int32} (hg : ∀ i, i < n → pp.1 i = g i) (ha : a ≤ n) {z : Int32} (h1 : ¬ z = 100) (h2 : ¬ z = 110) (h0 : (0 : Int32) < z) :
    (a + 1 ≤ n ∧ f_X1_readPart (QS pp l a m f) z = some (1, QS pp l (a + 1) m f) ∧ ∀ mm : MM, mm.2.2.2.2.2.2.1 = g → mm.2.2.2.2.2.2.2.1 = nI n → ∃ v, f_X4_sign (PM mm a 0) z z = some (v, PM mm (a + 1) 0)) ∨
    (f_X1_readPart (QS pp l a m f) z = some (0, QS pp l a m f) ∧ ∀ mm : MM, mm.2.2.2.2.2.2.1 = g → mm.2.2.2.2.2.2.2.1 = nI n → ∃ v, f_X4_sign (PM mm a 0) z z = some (v, PM mm a 1)) := by
  have es : Sg pp.1 n a = Sg g n a := by
    unfold Sg
    by_cases c : a < n
    · rw [if_pos c, if_pos c]; exact hg a c
    · rw [if_neg c, if_neg c]
  rw [readPart_c hl hn (by omega) h1 h2, es]
  by_cases c : Sg g n a = z
  · have hlt : a < n := Classical.byContradiction (fun d => by
      unfold Sg at c
      rw [if_neg d] at c
      rw [← c] at h0
      exact absurd h0 (by decide))
    refine Or.inl ⟨by omega, by rw [if_pos c], fun mm h3 h4 => ⟨Sg mm.2.2.2.2.2.2.1 n a, ?_⟩⟩
    subst h3
    rw [sign_0 h4 hn (by omega) h0, if_pos ⟨by rw [ti_le, c]; exact Int.le_refl _, by rw [ti_le, c]; exact Int.le_refl _⟩]
  · refine Or.inr ⟨by rw [if_neg c], fun mm h3 h4 => ⟨Sg mm.2.2.2.2.2.2.1 n a, ?_⟩⟩
    subst h3
    rw [sign_0 h4 hn (by omega) h0, if_neg (fun d => c (by
      have d1 := ti_le.1 d.1
      have d2 := ti_le.1 d.2
      rw [ti_eq]; omega))]
end PT

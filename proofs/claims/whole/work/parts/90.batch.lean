/-! reading the pad: pieces -/
abbrev PM (mm : MM) (a : Nat) (w : Int32) : MM := M9 (M8 mm (nI a)) w
def Sg (g : Nat → Int32) (n a : Nat) : Int32 := if a < n then g a else 0
abbrev Dg (x : Int32) : Prop := 48 ≤ x ∧ x ≤ 57
theorem sign_gen (t : MM) (lo hi : Int32) {v1 v2 v5 : Int32} (h1 : (if t.2.2.2.2.2.2.2.1 ≤ t.2.2.2.2.2.2.2.2.1 then some (0 : Int32) else ((rd t.2.2.2.2.2.2.1 80 t.2.2.2.2.2.2.2.2.1).bind fun x13 => some x13)) = some v1)
    (h2 : (if t.2.2.2.2.2.2.2.2.2 = 0 then (if t.2.2.2.2.2.2.2.1 ≤ t.2.2.2.2.2.2.2.2.1 then some (1 : Int32) else ((f_X4_in v1 lo hi).bind fun x9 => (if x9 = 0 then some (1 : Int32) else some (0 : Int32)))) else some (1 : Int32)) = some v2)
    (h3 : gb v2 = some v2) (h5 : (if v2 = 0 then some (1 : Int32) else some (0 : Int32)) = some v5) : f_X4_sign t lo hi = some (v1, M8 (M9 t v2) (t.2.2.2.2.2.2.2.2.1 + v5)) := by
  unfold f_X4_sign
  rw [ob h1, ob h2, ob h3]
  show ((if v2 = 0 then some (1 : Int32) else some (0 : Int32)).bind fun v5 => _) = _
  rw [ob h5]
  rfl
section PS
variable {mm : MM} {n a : Nat}
theorem v1_e (hl : mm.2.2.2.2.2.2.2.1 = nI n) (hn : n ≤ 80) (ha : a ≤ 80) : (if mm.2.2.2.2.2.2.2.1 ≤ nI a then some (0 : Int32) else ((rd mm.2.2.2.2.2.2.1 80 (nI a)).bind fun x13 => some x13)) = some (Sg mm.2.2.2.2.2.2.1 n a) := by
  unfold Sg
  rw [hl]
  by_cases c : a < n
  · rw [if_neg (nI_ge c (by omega)), if_pos c, ob (x4_rd rfl (by omega) (by decide))]
  · rw [if_pos (nI_le (by omega) (by omega)), if_neg c]
theorem sign_0 (hl : mm.2.2.2.2.2.2.2.1 = nI n) (hn : n ≤ 80) (ha : a ≤ 80) {lo hi : Int32} (hlo : (0 : Int32) < lo) : f_X4_sign (PM mm a 0) lo hi = if lo ≤ Sg mm.2.2.2.2.2.2.1 n a ∧ Sg mm.2.2.2.2.2.2.1 n a ≤ hi then some (Sg mm.2.2.2.2.2.2.1 n a, PM mm (a + 1) 0) else some (Sg mm.2.2.2.2.2.2.1 n a, PM mm a 1) := by
  have h1 := v1_e (a := a) hl hn ha
  by_cases c : lo ≤ Sg mm.2.2.2.2.2.2.1 n a ∧ Sg mm.2.2.2.2.2.2.1 n a ≤ hi
  · rw [if_pos c]
    have hlt : a < n := Classical.byContradiction (fun d => by
      unfold Sg at c
      rw [if_neg d] at c
      have c1 := ti_le.1 c.1
      have c2 := ti_lt.1 hlo
      omega)
    have h2 : (if (0 : Int32) = 0 then (if mm.2.2.2.2.2.2.2.1 ≤ nI a then some (1 : Int32) else ((f_X4_in (Sg mm.2.2.2.2.2.2.1 n a) lo hi).bind fun x9 => (if x9 = 0 then some (1 : Int32) else some (0 : Int32)))) else some (1 : Int32)) = some 0 := by
      rw [if_pos rfl, hl, if_neg (nI_ge hlt (by omega)), in_e, if_neg (fun d => by
        have c1 := ti_le.1 c.1
        have c2 := ti_le.1 c.2
        rcases d with d | d
        · have := ti_lt.1 d; omega
        · have := ti_lt.1 d; omega), ob rfl, if_neg n10]
    have h := sign_gen (PM mm a 0) lo hi (v5 := 1) h1 h2 gb0 (by rw [if_pos rfl])
    rw [h]
    show some (_, M8 (M9 (PM mm a 0) 0) (nI a + 1)) = _
    rw [nI_1]
    rfl
  · rw [if_neg c]
    have h2 : (if (0 : Int32) = 0 then (if mm.2.2.2.2.2.2.2.1 ≤ nI a then some (1 : Int32) else ((f_X4_in (Sg mm.2.2.2.2.2.2.1 n a) lo hi).bind fun x9 => (if x9 = 0 then some (1 : Int32) else some (0 : Int32)))) else some (1 : Int32)) = some 1 := by
      rw [if_pos rfl, hl]
      by_cases d : a < n
      · rw [if_neg (nI_ge d (by omega)), in_e, if_pos (Classical.byContradiction (fun e => c (by
          have e1 := mt ti_lt.2 (fun f => e (Or.inl f))
          have e2 := mt ti_lt.2 (fun f => e (Or.inr f))
          exact ⟨by rw [ti_le]; omega, by rw [ti_le]; omega⟩))), ob rfl, if_pos rfl]
      · rw [if_pos (nI_le (by omega) (by omega))]
    have h := sign_gen (PM mm a 0) lo hi (v5 := 0) h1 h2 gb1 (by rw [if_neg n10])
    rw [h]
    show some (_, M8 (M9 (PM mm a 0) 1) (nI a + 0)) = _
    rw [i_add0]
    rfl
theorem sign_1 (hl : mm.2.2.2.2.2.2.2.1 = nI n) (hn : n ≤ 80) (ha : a ≤ 80) (lo hi : Int32) : ∃ v, f_X4_sign (PM mm a 1) lo hi = some (v, PM mm a 1) := by
  have h := sign_gen (PM mm a 1) lo hi (v1 := Sg mm.2.2.2.2.2.2.1 n a) (v2 := 1) (v5 := 0) (v1_e (a := a) hl hn ha) (if_neg n10) gb1 (if_neg n10)
  refine ⟨Sg mm.2.2.2.2.2.2.1 n a, h.trans ?_⟩
  show some (_, M8 (M9 (PM mm a 1) 1) (nI a + 0)) = _
  rw [i_add0]
  rfl
theorem digit_0 (hl : mm.2.2.2.2.2.2.2.1 = nI n) (hn : n ≤ 80) (ha : a ≤ 80) : f_X4_digit (PM mm a 0) = if Dg (Sg mm.2.2.2.2.2.2.1 n a) then some (Sg mm.2.2.2.2.2.2.1 n a - 48, PM mm (a + 1) 0) else some (Sg mm.2.2.2.2.2.2.1 n a - 48, PM mm a 1) := by
  unfold f_X4_digit
  rw [sign_0 hl hn ha (by decide)]
  by_cases c : Dg (Sg mm.2.2.2.2.2.2.1 n a)
  · rw [if_pos c, if_pos c]; rfl
  · rw [if_neg c, if_neg c]; rfl
theorem digit_1 (hl : mm.2.2.2.2.2.2.2.1 = nI n) (hn : n ≤ 80) (ha : a ≤ 80) : ∃ v, f_X4_digit (PM mm a 1) = some (v, PM mm a 1) := by
  obtain ⟨v, h⟩ := sign_1 hl hn ha 48 57
  exact ⟨v - 48, by unfold f_X4_digit; rw [ob h]⟩
theorem Sg_lt {g : Nat → Int32} (h : Dg (Sg g n a)) : a < n := Classical.byContradiction (fun d => by
  unfold Dg Sg at h
  rw [if_neg d] at h
  exact absurd h (by decide))
theorem number_0 (hl : mm.2.2.2.2.2.2.2.1 = nI n) (hn : n ≤ 80) (ha : a ≤ 80) : f_X4_number (PM mm a 0) = if Dg (Sg mm.2.2.2.2.2.2.1 n a) then (if ¬ (Sg mm.2.2.2.2.2.2.1 n a - 48 ≤ 0) ∧ Dg (Sg mm.2.2.2.2.2.2.1 n (a + 1)) then some (10 * (Sg mm.2.2.2.2.2.2.1 n a - 48) + (Sg mm.2.2.2.2.2.2.1 n (a + 1) - 48), PM mm (a + 2) 0) else some (Sg mm.2.2.2.2.2.2.1 n a - 48, PM mm (a + 1) 0)) else some (Sg mm.2.2.2.2.2.2.1 n a - 48, PM mm a 1) := by
  unfold f_X4_number
  rw [digit_0 hl hn ha]
  by_cases c : Dg (Sg mm.2.2.2.2.2.2.1 n a)
  · rw [if_pos c, if_pos c, ob rfl]
    have hlt := Sg_lt c
    show (if Sg mm.2.2.2.2.2.2.1 n a - 48 ≤ 0 then some (Sg mm.2.2.2.2.2.2.1 n a - 48, PM mm (a + 1) 0) else (if (0 : Int32) = 0 then (if mm.2.2.2.2.2.2.2.1 ≤ nI (a + 1) then some (Sg mm.2.2.2.2.2.2.1 n a - 48, PM mm (a + 1) 0) else ((rd mm.2.2.2.2.2.2.1 80 (nI (a + 1))).bind fun x6 => ((f_X4_in x6 (48 : Int32) (57 : Int32)).bind fun x8 => (if x8 = 0 then some (Sg mm.2.2.2.2.2.2.1 n a - 48, PM mm (a + 1) 0) else ((f_X4_digit (PM mm (a + 1) 0)).bind fun x11 => some ((((10 : Int32) * (Sg mm.2.2.2.2.2.2.1 n a - 48)) + x11.1), x11.2)))))) else some (Sg mm.2.2.2.2.2.2.1 n a - 48, PM mm (a + 1) 0))) = _
    by_cases c1 : Sg mm.2.2.2.2.2.2.1 n a - 48 ≤ 0
    · rw [if_pos c1, if_neg (fun d => d.1 c1)]
    · rw [if_neg c1, if_pos rfl, hl]
      by_cases c2 : a + 1 < n
      · rw [if_neg (nI_ge c2 (by omega)), ob (x4_rd rfl (by omega) (by decide)), in_e, digit_0 hl hn (by omega)]
        have es : Sg mm.2.2.2.2.2.2.1 n (a + 1) = mm.2.2.2.2.2.2.1 (a + 1) := if_pos c2
        by_cases c3 : Dg (Sg mm.2.2.2.2.2.2.1 n (a + 1))
        · have c3' : ¬ (mm.2.2.2.2.2.2.1 (a + 1) < 48 ∨ 57 < mm.2.2.2.2.2.2.1 (a + 1)) := fun d => by
            rw [← es] at d
            have c4 := ti_le.1 c3.1
            have c5 := ti_le.1 c3.2
            rcases d with d | d
            · have := ti_lt.1 d; omega
            · have := ti_lt.1 d; omega
          rw [if_neg c3', ob rfl, if_neg n10, if_pos c3, ob rfl, if_pos ⟨c1, c3⟩]
        · have c3' : mm.2.2.2.2.2.2.1 (a + 1) < 48 ∨ 57 < mm.2.2.2.2.2.2.1 (a + 1) := Classical.byContradiction (fun e => c3 (by
            rw [← es] at e
            have e1 := mt ti_lt.2 (fun f => e (Or.inl f))
            have e2 := mt ti_lt.2 (fun f => e (Or.inr f))
            exact ⟨by rw [ti_le]; omega, by rw [ti_le]; omega⟩))
          rw [if_pos c3', ob rfl, if_pos rfl, if_neg (fun d => c3 d.2)]
      · rw [if_pos (nI_le (by omega) (by omega)), if_neg (fun d => c2 (Sg_lt d.2))]
  · rw [if_neg c, if_neg c, ob rfl]
    show (if Sg mm.2.2.2.2.2.2.1 n a - 48 ≤ 0 then some (Sg mm.2.2.2.2.2.2.1 n a - 48, PM mm a 1) else (if (1 : Int32) = 0 then _ else some (Sg mm.2.2.2.2.2.2.1 n a - 48, PM mm a 1))) = _
    by_cases c1 : Sg mm.2.2.2.2.2.2.1 n a - 48 ≤ 0
    · rw [if_pos c1]
    · rw [if_neg c1, if_neg n10]
/-- the reader's state -/
abbrev QS (pp : PP) (l : Int32) (a m : Nat) (f : Nat → Int32) : PP := (pp.1, pp.2.1, nI a, l, f, nI m)
variable {pp : PP} {l : Int32} {m : Nat} {f : Nat → Int32}
theorem signAt_e {q : PP} (hl : q.2.1 = nI n) (hn : n ≤ 80) (ha : a ≤ 80) : f_X1_signAt q (nI a) = some (Sg q.1 n a) := by
  unfold f_X1_signAt Sg
  rw [if_neg (nI_pos (by omega)), hl]
  by_cases c : a < n
  · rw [if_neg (nI_ge c (by omega)), if_neg (by rw [show (80 : Int32) = nI 80 from rfl]; exact nI_ge (by omega) (by decide)), ob (x4_rd rfl (by omega) (by decide)), if_pos c]
  · rw [if_pos (nI_le (by omega) (by omega)), if_neg c]
theorem isDigit_e (x : Int32) : f_X1_isDigit x = some (if Dg x then 1 else 0) := by
  unfold f_X1_isDigit
  by_cases c : x < 48
  · rw [if_pos c, if_neg (fun d => by have d1 := ti_le.1 d.1; have c1 := ti_lt.1 c; omega)]
  · by_cases d : 57 < x
    · rw [if_neg c, if_pos d, if_neg (fun e => by have d1 := ti_le.1 e.2; have c1 := ti_lt.1 d; omega)]
    · rw [if_neg c, if_neg d, if_pos]
      have c1 := mt ti_lt.2 c
      have d1 := mt ti_lt.2 d
      exact ⟨by rw [ti_le]; omega, by rw [ti_le]; omega⟩
theorem addNumber_e (hm : m < 3) (v : Int32) : f_X1_addNumber (QS pp l a m f) v = some (QS pp l a (m + 1) (upd f m v)) := by
  unfold f_X1_addNumber
  show (if nI m < 0 then _ else (if (3 : Int32) ≤ nI m then _ else ((wr f 3 (nI m) v).bind fun g3 => _))) = _
  rw [if_neg (nI_pos (by omega)), if_neg (by rw [show (3 : Int32) = nI 3 from rfl]; exact nI_ge hm (by decide)), ob (x4_wr rfl hm (by decide))]
  show some (P5 _ (nI m + 1)) = _
  rw [nI_1]
  rfl
theorem readPart_d (hl : pp.2.1 = nI n) (hn : n ≤ 80) (ha : a ≤ 80) (hm : m < 3) : f_X1_readPart (QS pp l a m f) 100 = if Dg (Sg pp.1 n a) then some (1, QS pp l (a + 1) (m + 1) (upd f m (Sg pp.1 n a - 48))) else some (0, QS pp l a m f) := by
  have hs : f_X1_signAt (QS pp l a m f) (QS pp l a m f).2.2.1 = some (Sg pp.1 n a) := signAt_e (q := QS pp l a m f) hl hn ha
  unfold f_X1_readPart
  rw [if_pos rfl, if_neg (by decide)]
  unfold f_X1_readNumber
  rw [ob hs, ob (isDigit_e _), ob hs]
  by_cases c : Dg (Sg pp.1 n a)
  · rw [if_pos c, if_neg n10, if_pos (by decide), ob rfl]
    show (((f_X1_addNumber (P2 (QS pp l a m f) (nI a + 1)) (Sg pp.1 n a - 48)).bind fun x9 => some ((1 : Int32), x9)).bind fun x3 => _) = _
    rw [nI_1]
    show (((f_X1_addNumber (QS pp l (a + 1) m f) (Sg pp.1 n a - 48)).bind fun x9 => some ((1 : Int32), x9)).bind fun x3 => _) = _
    rw [ob (addNumber_e hm _), ob rfl, ob gb1, if_pos c]
  · rw [if_neg c, if_pos rfl, ob rfl, ob gb0, if_neg c]
theorem i_as (x y z : Int32) : x + y - z = x + (y - z) := by
  rw [Int32.sub_eq_add_neg, Int32.sub_eq_add_neg, Int32.add_assoc]
theorem readPart_n (hl : pp.2.1 = nI n) (hn : n ≤ 80) (ha : a ≤ 80) (hm : m < 3) : f_X1_readPart (QS pp l a m f) 110 = if Dg (Sg pp.1 n a) then (if ¬ (Sg pp.1 n a - 48 ≤ 0) ∧ Dg (Sg pp.1 n (a + 1)) then some (1, QS pp l (a + 2) (m + 1) (upd f m (10 * (Sg pp.1 n a - 48) + (Sg pp.1 n (a + 1) - 48)))) else some (1, QS pp l (a + 1) (m + 1) (upd f m (Sg pp.1 n a - 48)))) else some (0, QS pp l a m f) := by
  have hs : f_X1_signAt (QS pp l a m f) (QS pp l a m f).2.2.1 = some (Sg pp.1 n a) := signAt_e (q := QS pp l a m f) hl hn ha
  unfold f_X1_readPart
  rw [if_neg (by decide), if_pos rfl, if_pos rfl]
  unfold f_X1_readNumber
  rw [ob hs, ob (isDigit_e _), ob hs]
  by_cases c : Dg (Sg pp.1 n a)
  · have hlt := Sg_lt c
    have hs1 : f_X1_signAt (QS pp l (a + 1) m f) (QS pp l (a + 1) m f).2.2.1 = some (Sg pp.1 n (a + 1)) := signAt_e (q := QS pp l (a + 1) m f) hl hn (by omega)
    have eP : P2 (QS pp l a m f) ((QS pp l a m f).2.2.1 + (1 : Int32)) = QS pp l (a + 1) m f := by
      show P2 (QS pp l a m f) (nI a + 1) = _
      rw [nI_1]
      rfl
    rw [if_pos c, if_neg n10, if_neg (by decide), if_pos c, eP, ob hs1, ob (isDigit_e _), ob hs1]
    have eP2 : P2 (QS pp l (a + 1) m f) ((QS pp l (a + 1) m f).2.2.1 + (1 : Int32)) = QS pp l (a + 2) m f := by
      show P2 (QS pp l (a + 1) m f) (nI (a + 1) + 1) = _
      rw [nI_1]
      rfl
    by_cases c1 : Sg pp.1 n a - 48 ≤ 0
    · rw [if_pos c1, ob rfl, ob (addNumber_e hm _), ob rfl, ob gb1, if_neg (fun d => d.1 c1)]
    · rw [if_neg c1]
      by_cases c2 : Dg (Sg pp.1 n (a + 1))
      · rw [if_pos c2, if_neg n10, eP2, ob rfl, ob (addNumber_e hm _), ob rfl, ob gb1, if_pos ⟨c1, c2⟩, i_as]
      · rw [if_neg c2, if_pos rfl, ob rfl, ob (addNumber_e hm _), ob rfl, ob gb1, if_neg (fun d => c2 d.2)]
  · rw [if_neg c, if_pos rfl, ob rfl, ob gb0, if_neg c]
theorem readPart_c (hl : pp.2.1 = nI n) (hn : n ≤ 80) (ha : a ≤ 80) {z : Int32} (h1 : ¬ z = 100) (h2 : ¬ z = 110) : f_X1_readPart (QS pp l a m f) z = if Sg pp.1 n a = z then some (1, QS pp l (a + 1) m f) else some (0, QS pp l a m f) := by
  have hs : f_X1_signAt (QS pp l a m f) (QS pp l a m f).2.2.1 = some (Sg pp.1 n a) := signAt_e (q := QS pp l a m f) hl hn ha
  unfold f_X1_readPart
  rw [if_neg h1, if_neg h2, ob hs]
  by_cases c : Sg pp.1 n a = z
  · rw [if_pos c, if_pos c]
    show some (_, P2 (QS pp l a m f) (nI a + 1)) = _
    rw [nI_1]
    rfl
  · rw [if_neg c, if_neg c]
theorem number_e (hm : m ≤ 3) {j : Nat} (hj : j < 3) : f_X1_number (QS pp l a m f) (nI j) = some (if j < m then f j else 0) := by
  unfold f_X1_number
  show (if nI j < 0 then _ else (if nI m ≤ nI j then _ else (if (3 : Int32) ≤ nI j then _ else ((rd f 3 (nI j)).bind fun x4 => _)))) = _
  rw [if_neg (nI_pos (by omega))]
  by_cases c : j < m
  · rw [if_neg (nI_ge c (by omega)), if_neg (by rw [show (3 : Int32) = nI 3 from rfl]; exact nI_ge hj (by decide)), ob (x4_rd rfl hj (by decide)), if_pos c]
  · rw [if_pos (nI_le (by omega) (by omega)), if_neg c]
end PS
/-! reading an order: the loop over its form -/
def run : List Int32 → PP → Option (Int32 × PP)
  | [], q => some (1, q)
  | z :: zs, q => (f_X1_readPart q z).bind fun x => if x.1 = 0 then some (0, x.2) else run zs x.2
theorem l46_e {i n j : Nat} {len : Int32} (hlen : f_J0_length_8abf5 i = some len) (hj : len ≤ nI j) (q : PP) : f_X1_readOrder_L46 i (n + 1) q (nI j) = run [] q := by
  rw [f_X1_readOrder_L46, ob hlen, if_pos hj]
  rfl
theorem l46_s {i n j : Nat} {len z : Int32} {zs : List Int32} (hlen : f_J0_length_8abf5 i = some len) (hj : ¬ len ≤ nI j) (hz : f_J0_charAt_5068e i (nI j) = some z) (ih : ∀ q, f_X1_readOrder_L46 i n q (nI (j + 1)) = run zs q) (q : PP) :
    f_X1_readOrder_L46 i (n + 1) q (nI j) = run (z :: zs) q := by
  rw [f_X1_readOrder_L46, ob hlen, if_neg hj, ob hz, run]
  refine congrArg (f_X1_readPart q z).bind ?_
  funext x
  by_cases h : x.1 = 0
  · rw [if_pos h, if_pos h]
  · rw [if_neg h, if_neg h, nI_1, ih]
theorem form_0 (q : PP) : f_X1_readOrder_L46 0 2000 q (nI 0) = run [100, 100] q := l46_s (len := 2) (by decide +kernel) (by decide) (by decide +kernel) (l46_s (len := 2) (by decide +kernel) (by decide) (by decide +kernel) (l46_e (len := 2) (by decide +kernel) (by decide))) q
theorem form_1 (q : PP) : f_X1_readOrder_L46 1 2000 q (nI 0) = run [100, 62, 100] q := l46_s (len := 3) (by decide +kernel) (by decide) (by decide +kernel) (l46_s (len := 3) (by decide +kernel) (by decide) (by decide +kernel) (l46_s (len := 3) (by decide +kernel) (by decide) (by decide +kernel) (l46_e (len := 3) (by decide +kernel) (by decide)))) q
theorem form_2 (q : PP) : f_X1_readOrder_L46 2 2000 q (nI 0) = run [100, 100, 47, 100] q := l46_s (len := 4) (by decide +kernel) (by decide) (by decide +kernel) (l46_s (len := 4) (by decide +kernel) (by decide) (by decide +kernel) (l46_s (len := 4) (by decide +kernel) (by decide) (by decide +kernel) (l46_s (len := 4) (by decide +kernel) (by decide) (by decide +kernel) (l46_e (len := 4) (by decide +kernel) (by decide))))) q
theorem form_3 (q : PP) : f_X1_readOrder_L46 3 2000 q (nI 0) = run [110, 46, 100] q := l46_s (len := 3) (by decide +kernel) (by decide) (by decide +kernel) (l46_s (len := 3) (by decide +kernel) (by decide) (by decide +kernel) (l46_s (len := 3) (by decide +kernel) (by decide) (by decide +kernel) (l46_e (len := 3) (by decide +kernel) (by decide)))) q
theorem form_4 (q : PP) : f_X1_readOrder_L46 4 2000 q (nI 0) = run [110] q := l46_s (len := 1) (by decide +kernel) (by decide) (by decide +kernel) (l46_e (len := 1) (by decide +kernel) (by decide)) q
theorem form_5 (q : PP) : f_X1_readOrder_L46 5 2000 q (nI 0) = run [100] q := l46_s (len := 1) (by decide +kernel) (by decide) (by decide +kernel) (l46_e (len := 1) (by decide +kernel) (by decide)) q
theorem i6 {c : Prop} [Decidable c] {z : Option Nat} (h : z = some 6) : (if c then some 6 else z) = some 6 := by
  by_cases hc : c
  · rw [if_pos hc]
  · rw [if_neg hc]; exact h
theorem formOf_6 {x : Int32} (h : ¬ (x = 112 ∨ x = 115 ∨ x = 105 ∨ x = 119 ∨ x = 102 ∨ x = 111 ∨ x = 116 ∨ x = 97)) : f_X1_formOf x = some 6 := by
  unfold f_X1_formOf
  refine (if_neg (fun e : x = 97 => h (by simp [e]))).trans ?_
  refine i6 ?_
  refine i6 ?_
  refine i6 ?_
  refine i6 ?_
  refine (if_neg (fun e : x = 102 => h (by simp [e]))).trans ?_
  refine i6 ?_
  refine i6 ?_
  refine (if_neg (fun e : x = 105 => h (by simp [e]))).trans ?_
  refine i6 ?_
  refine i6 ?_
  refine i6 ?_
  refine i6 ?_
  refine i6 ?_
  refine (if_neg (fun e : x = 111 => h (by simp [e]))).trans ?_
  refine (if_neg (fun e : x = 112 => h (by simp [e]))).trans ?_
  refine i6 ?_
  refine i6 ?_
  refine (if_neg (fun e : x = 115 => h (by simp [e]))).trans ?_
  refine (if_neg (fun e : x = 116 => h (by simp [e]))).trans ?_
  refine i6 ?_
  refine i6 ?_
  refine (if_neg (fun e : x = 119 => h (by simp [e]))).trans ?_
  rfl
section PT
variable {pp : PP} {n a m : Nat} {l : Int32} {f : Nat → Int32}
abbrev QW (pp : PP) (l : Int32) (a : Nat) (w : Int32) (f : Nat → Int32) : PP := (pp.1, pp.2.1, nI a, l, f, w)
variable {w : Int32}
theorem readOrder_e (hl : pp.2.1 = nI n) (hn : n ≤ 80) (ha : a ≤ 80) {i : Nat} {x : Int32} (hx : Sg pp.1 n a = x) (hi : f_X1_formOf x = some i) (h6 : f_J0_isEmpty_aae02 i = some 0) : f_X1_readOrder (QW pp l a w f) = f_X1_readOrder_L46 i 2000 (QS pp x (a + 1) 0 f) (nI 0) := by
  have hs : f_X1_signAt (QW pp l a w f) (QW pp l a w f).2.2.1 = some x := hx ▸ signAt_e (q := QW pp l a w f) hl hn ha
  unfold f_X1_readOrder
  rw [ob hs]
  show ((f_X1_formOf x).bind fun x3 => _) = _
  rw [ob hi, ob h6, if_pos rfl]
  show f_X1_readOrder_L46 i 2000 (P2 (QS pp x a 0 f) (nI a + 1)) 0 = _
  rw [nI_1, nI_0]
  rfl
theorem readOrder_6 (hl : pp.2.1 = nI n) (hn : n ≤ 80) (ha : a ≤ 80) (hi : f_X1_formOf (Sg pp.1 n a) = some 6) : f_X1_readOrder (QW pp l a w f) = some (0, QS pp (Sg pp.1 n a) a 0 f) := by
  have hs : f_X1_signAt (QW pp l a w f) (QW pp l a w f).2.2.1 = some (Sg pp.1 n a) := signAt_e (q := QW pp l a w f) hl hn ha
  have h6 : f_J0_isEmpty_aae02 6 = some 1 := by decide +kernel
  unfold f_X1_readOrder
  rw [ob hs]
  show ((f_X1_formOf (Sg pp.1 n a)).bind fun x3 => _) = _
  rw [ob hi, ob h6, if_neg n10]
  rfl
/-- a digit: both alike -/
theorem dig_both (hl : pp.2.1 = nI n) (hn : n ≤ 80) {g : Nat → Int32} (hg : ∀ i, i < n → pp.1 i = g i) (ha : a ≤ n) (hm : m < 3) :
    (∃ v, a + 1 ≤ n ∧ (0 ≤ v ∧ v ≤ 9) ∧ f_X1_readPart (QS pp l a m f) 100 = some (1, QS pp l (a + 1) (m + 1) (upd f m v)) ∧ ∀ mm : MM, mm.2.2.2.2.2.2.1 = g → mm.2.2.2.2.2.2.2.1 = nI n → f_X4_digit (PM mm a 0) = some (v, PM mm (a + 1) 0)) ∨
    (f_X1_readPart (QS pp l a m f) 100 = some (0, QS pp l a m f) ∧ ∀ mm : MM, mm.2.2.2.2.2.2.1 = g → mm.2.2.2.2.2.2.2.1 = nI n → ∃ v, f_X4_digit (PM mm a 0) = some (v, PM mm a 1)) := by
  have es : Sg pp.1 n a = Sg g n a := by
    unfold Sg
    by_cases c : a < n
    · rw [if_pos c, if_pos c]; exact hg a c
    · rw [if_neg c, if_neg c]
  rw [readPart_d hl hn (by omega) hm, es]
  by_cases c : Dg (Sg g n a)
  · have hlt := Sg_lt c
    have c1 := ti_le.1 c.1
    have c2 := ti_le.1 c.2
    rw [show (48 : Int32).toInt = 48 from by decide] at c1
    rw [show (57 : Int32).toInt = 57 from by decide] at c2
    have ev : (Sg g n a - 48).toInt = (Sg g n a).toInt - 48 := by
      have := ti_sub (x := Sg g n a) (y := 48) (by rw [show (48 : Int32).toInt = 48 from by decide]; omega) (by rw [show (48 : Int32).toInt = 48 from by decide]; omega)
      rw [show (48 : Int32).toInt = 48 from by decide] at this
      exact this
    refine Or.inl ⟨Sg g n a - 48, by omega, ⟨by rw [ti_le, ev, ti_0]; omega, by rw [ti_le, ev, ti_9]; omega⟩, by rw [if_pos c], fun mm h1 h2 => ?_⟩
    subst h1
    rw [digit_0 h2 hn (by omega), if_pos c]
  · refine Or.inr ⟨by rw [if_neg c], fun mm h1 h2 => ?_⟩
    subst h1
    exact ⟨_, by rw [digit_0 h2 hn (by omega), if_neg c]⟩
theorem num_both (hl : pp.2.1 = nI n) (hn : n ≤ 80) {g : Nat → Int32} (hg : ∀ i, i < n → pp.1 i = g i) (ha : a ≤ n) (hm : m < 3) :
    (∃ v a1, a + 1 ≤ a1 ∧ a1 ≤ n ∧ f_X1_readPart (QS pp l a m f) 110 = some (1, QS pp l a1 (m + 1) (upd f m v)) ∧ ∀ mm : MM, mm.2.2.2.2.2.2.1 = g → mm.2.2.2.2.2.2.2.1 = nI n → f_X4_number (PM mm a 0) = some (v, PM mm a1 0)) ∨
    (f_X1_readPart (QS pp l a m f) 110 = some (0, QS pp l a m f) ∧ ∀ mm : MM, mm.2.2.2.2.2.2.1 = g → mm.2.2.2.2.2.2.2.1 = nI n → ∃ v, f_X4_number (PM mm a 0) = some (v, PM mm a 1)) := by
  have es : ∀ b, Sg pp.1 n b = Sg g n b := by
    intro b
    unfold Sg
    by_cases c : b < n
    · rw [if_pos c, if_pos c]; exact hg b c
    · rw [if_neg c, if_neg c]
  rw [readPart_n hl hn (by omega) hm, es, es]
  by_cases c : Dg (Sg g n a)
  · have hlt := Sg_lt c
    by_cases d : ¬ (Sg g n a - 48 ≤ 0) ∧ Dg (Sg g n (a + 1))
    · have hlt2 := Sg_lt d.2
      refine Or.inl ⟨_, a + 2, by omega, by omega, by rw [if_pos c, if_pos d], fun mm h1 h2 => ?_⟩
      subst h1
      rw [number_0 h2 hn (by omega), if_pos c, if_pos d]
    · refine Or.inl ⟨_, a + 1, by omega, by omega, by rw [if_pos c, if_neg d], fun mm h1 h2 => ?_⟩
      subst h1
      rw [number_0 h2 hn (by omega), if_pos c, if_neg d]
  · refine Or.inr ⟨by rw [if_neg c], fun mm h1 h2 => ?_⟩
    subst h1
    exact ⟨_, by rw [number_0 h2 hn (by omega), if_neg c]⟩
theorem sig_both (hl : pp.2.1 = nI n) (hn : n ≤ 80) {g : Nat → Int32} (hg : ∀ i, i < n → pp.1 i = g i) (ha : a ≤ n) {z : Int32} (h1 : ¬ z = 100) (h2 : ¬ z = 110) (h0 : (0 : Int32) < z) :
    (a + 1 ≤ n ∧ f_X1_readPart (QS pp l a m f) z = some (1, QS pp l (a + 1) m f) ∧ ∀ mm : MM, mm.2.2.2.2.2.2.1 = g → mm.2.2.2.2.2.2.2.1 = nI n → ∃ v, f_X4_sign (PM mm a 0) z z = some (v, PM mm (a + 1) 0)) ∨
    (f_X1_readPart (QS pp l a m f) z = some (0, QS pp l a m f) ∧ ∀ mm : MM, mm.2.2.2.2.2.2.1 = g → mm.2.2.2.2.2.2.2.1 = nI n → ∃ v, f_X4_sign (PM mm a 0) z z = some (v, PM mm a 1)) := by
  have es : Sg pp.1 n a = Sg g n a := by
    unfold Sg
    by_cases c : a < n
    · rw [if_pos c, if_pos c]; exact hg a c
    · rw [if_neg c, if_neg c]
  rw [readPart_c hl hn (by omega) h1 h2, es]
  by_cases c : Sg g n a = z
  · have hlt : a < n := Classical.byContradiction (fun d => by
      unfold Sg at c
      rw [if_neg d] at c
      rw [← c] at h0
      exact absurd h0 (by decide))
    refine Or.inl ⟨by omega, by rw [if_pos c], fun mm h3 h4 => ⟨Sg mm.2.2.2.2.2.2.1 n a, ?_⟩⟩
    subst h3
    rw [sign_0 h4 hn (by omega) h0, if_pos ⟨by rw [ti_le, c]; exact Int.le_refl _, by rw [ti_le, c]; exact Int.le_refl _⟩]
  · refine Or.inr ⟨by rw [if_neg c], fun mm h3 h4 => ⟨Sg mm.2.2.2.2.2.2.1 n a, ?_⟩⟩
    subst h3
    rw [sign_0 h4 hn (by omega) h0, if_neg (fun d => c (by
      have d1 := ti_le.1 d.1
      have d2 := ti_le.1 d.2
      rw [ti_eq]; omega))]
end PT
/-! an order of the model behind its letter -/
theorem b_eta {α β : Type} (o : Option (α × β)) : (o.bind fun x => some (x.1, x.2)) = o := by cases o <;> rfl
def ordT (l : Int32) (z : MM) (a1 : Int32) : Option (Int32 × MM) := (((if l = (119 : Int32) then ((f_X4_number z).bind fun x94 => some (x94.1, x94.2)) else (if l = (102 : Int32) then ((f_X4_number z).bind fun x97 => some (x97.1, x97.2)) else (if l = (116 : Int32) then ((f_X4_number z).bind fun x102 => some (x102.1, x102.2)) else ((f_X4_digit z).bind fun x100 => some (x100.1, x100.2))))) : Option (Int32 × MM)).bind fun v7 => (((if l = (115 : Int32) then ((f_X4_sign v7.2 (62 : Int32) (62 : Int32)).bind fun x91 => some x91.2) else some v7.2) : Option (MM)).bind fun v8 => (((if l = (119 : Int32) then ((f_X4_sign v8 (46 : Int32) (46 : Int32)).bind fun x88 => some x88.2) else some v8) : Option (MM)).bind fun v9 => (((if l = (112 : Int32) then ((f_X4_digit v9).bind fun x76 => some (x76.1, x76.2)) else (if l = (115 : Int32) then ((f_X4_digit v9).bind fun x79 => some (x79.1, x79.2)) else (if l = (105 : Int32) then ((f_X4_digit v9).bind fun x82 => some (x82.1, x82.2)) else (if l = (119 : Int32) then ((f_X4_digit v9).bind fun x85 => some (x85.1, x85.2)) else some ((0 : Int32), v9))))) : Option (Int32 × MM)).bind fun l0 => (((if l = (105 : Int32) then ((f_X4_sign l0.2 (47 : Int32) (47 : Int32)).bind fun x71 => ((f_X4_digit x71.2).bind fun x73 => some (x73.1, x73.2))) else some ((0 : Int32), l0.2)) : Option (Int32 × MM)).bind fun l1 => (if a1 = 0 then some ((0 : Int32), l1.2) else (if l = (102 : Int32) then ((f_X4_fights l1.2.1 v7.1).bind fun x15 => some (x15.1, (M0 l1.2 x15.2))) else (if l = (103 : Int32) then ((f_X4_turns l1.2.1 v7.1).bind fun x18 => some (x18.1, (M0 l1.2 x18.2))) else (if l = (104 : Int32) then ((f_X4_turns l1.2.1 v7.1).bind fun x21 => some (x21.1, (M0 l1.2 x21.2))) else (if l = (105 : Int32) then ((f_X4_offends l1.2.1 v7.1 l0.1 l1.1).bind fun x24 => some (x24.1, (M0 l1.2 x24.2))) else (if l = (106 : Int32) then ((f_X4_turns l1.2.1 v7.1).bind fun x27 => some (x27.1, (M0 l1.2 x27.2))) else (if l = (107 : Int32) then ((f_X4_turns l1.2.1 v7.1).bind fun x30 => some (x30.1, (M0 l1.2 x30.2))) else (if l = (108 : Int32) then ((f_X4_turns l1.2.1 v7.1).bind fun x33 => some (x33.1, (M0 l1.2 x33.2))) else (if l = (109 : Int32) then ((f_X4_turns l1.2.1 v7.1).bind fun x36 => some (x36.1, (M0 l1.2 x36.2))) else (if l = (110 : Int32) then ((f_X4_turns l1.2.1 v7.1).bind fun x39 => some (x39.1, (M0 l1.2 x39.2))) else (if l = (111 : Int32) then ((f_X4_swears l1.2.1 v7.1).bind fun x42 => some (x42.1, (M0 l1.2 x42.2))) else (if l = (112 : Int32) then ((f_X4_comes l1.2.1 v7.1 l0.1).bind fun x45 => some (x45.1, (M0 l1.2 x45.2))) else (if l = (113 : Int32) then ((f_X4_turns l1.2.1 v7.1).bind fun x48 => some (x48.1, (M0 l1.2 x48.2))) else (if l = (114 : Int32) then ((f_X4_turns l1.2.1 v7.1).bind fun x51 => some (x51.1, (M0 l1.2 x51.2))) else (if l = (115 : Int32) then ((f_X4_takes l1.2.1 v7.1 l0.1).bind fun x54 => some (x54.1, (M0 l1.2 x54.2))) else (if l = (116 : Int32) then ((f_X4_passes l1.2.1 v7.1).bind fun x57 => some (x57.1, (M0 l1.2 x57.2))) else (if l = (117 : Int32) then ((f_X4_turns l1.2.1 v7.1).bind fun x60 => some (x60.1, (M0 l1.2 x60.2))) else (if l = (118 : Int32) then ((f_X4_turns l1.2.1 v7.1).bind fun x63 => some (x63.1, (M0 l1.2 x63.2))) else (if l = (119 : Int32) then ((f_X4_settles l1.2.1 v7.1 l0.1).bind fun x66 => some (x66.1, (M0 l1.2 x66.2))) else ((f_X4_turns l1.2.1 v7.1).bind fun x68 => some (x68.1, (M0 l1.2 x68.2)))))))))))))))))))))))))))
theorem order_gen (t : MM) (a1 : Int32) {l : Int32} (h1 : (if t.2.2.2.2.2.2.2.1 ≤ t.2.2.2.2.2.2.2.2.1 then some (0 : Int32) else ((rd t.2.2.2.2.2.2.1 80 t.2.2.2.2.2.2.2.2.1).bind fun x116 => some x116)) = some l)
    (h2 : (if l = (112 : Int32) then some (1 : Int32) else (if l = (115 : Int32) then some (1 : Int32) else (if l = (105 : Int32) then some (1 : Int32) else (if l = (119 : Int32) then some (1 : Int32) else (if l = (102 : Int32) then some (1 : Int32) else (if l = (111 : Int32) then some (1 : Int32) else (if l = (116 : Int32) then some (1 : Int32) else (if l = (97 : Int32) then some (1 : Int32) else some (0 : Int32))))))))) = some 1)
    (hw : t.2.2.2.2.2.2.2.2.2 = 0) : f_X4_order t a1 = ordT l (M8 (M9 t 0) (t.2.2.2.2.2.2.2.2.1 + 1)) a1 := by
  unfold f_X4_order
  rw [ob h1, ob h2, hw, if_pos rfl, if_neg n10, ob rfl, ob gb0]
  show ((if (0 : Int32) = 0 then some (1 : Int32) else some (0 : Int32)).bind fun v6 => _) = _
  rw [if_pos rfl, ob rfl]
  rfl
theorem order_bad (t : MM) {l : Int32} (h1 : (if t.2.2.2.2.2.2.2.1 ≤ t.2.2.2.2.2.2.2.2.1 then some (0 : Int32) else ((rd t.2.2.2.2.2.2.1 80 t.2.2.2.2.2.2.2.2.1).bind fun x116 => some x116)) = some l)
    (h2 : (if l = (112 : Int32) then some (1 : Int32) else (if l = (115 : Int32) then some (1 : Int32) else (if l = (105 : Int32) then some (1 : Int32) else (if l = (119 : Int32) then some (1 : Int32) else (if l = (102 : Int32) then some (1 : Int32) else (if l = (111 : Int32) then some (1 : Int32) else (if l = (116 : Int32) then some (1 : Int32) else (if l = (97 : Int32) then some (1 : Int32) else some (0 : Int32))))))))) = some 0)
    (hw : t.2.2.2.2.2.2.2.2.2 = 0) : f_X4_order t 0 = ordT l (M8 (M9 t 1) (t.2.2.2.2.2.2.2.2.1 + 0)) 0 := by
  unfold f_X4_order
  rw [ob h1, ob h2, hw, if_pos rfl, if_pos rfl, ob rfl, ob gb1]
  show ((if (1 : Int32) = 0 then some (1 : Int32) else some (0 : Int32)).bind fun v6 => _) = _
  rw [if_neg n10, ob rfl]
  rfl
section PU
variable {mm : MM} {n a : Nat}
theorem ord_e (hl : mm.2.2.2.2.2.2.2.1 = nI n) (hn : n ≤ 80) (ha : a ≤ 80) {l : Int32} (hv : Sg mm.2.2.2.2.2.2.1 n a = l)
    (h2 : (if l = (112 : Int32) then some (1 : Int32) else (if l = (115 : Int32) then some (1 : Int32) else (if l = (105 : Int32) then some (1 : Int32) else (if l = (119 : Int32) then some (1 : Int32) else (if l = (102 : Int32) then some (1 : Int32) else (if l = (111 : Int32) then some (1 : Int32) else (if l = (116 : Int32) then some (1 : Int32) else (if l = (97 : Int32) then some (1 : Int32) else some (0 : Int32))))))))) = some 1) (x : Int32) : f_X4_order (PM mm a 0) x = ordT l (PM mm (a + 1) 0) x := by
  have h := order_gen (PM mm a 0) x (l := l) (hv ▸ v1_e (a := a) hl hn ha) h2 rfl
  rw [h]
  show ordT l (M8 (M9 (PM mm a 0) 0) (nI a + 1)) x = _
  rw [nI_1]
  rfl
theorem ord_bad (hl : mm.2.2.2.2.2.2.2.1 = nI n) (hn : n ≤ 80) (ha : a ≤ 80) {l : Int32} (hv : Sg mm.2.2.2.2.2.2.1 n a = l)
    (hb : ¬ (l = 112 ∨ l = 115 ∨ l = 105 ∨ l = 119 ∨ l = 102 ∨ l = 111 ∨ l = 116 ∨ l = 97)) : f_X4_order (PM mm a 0) 0 = some (0, PM mm a 1) := by
  have b1 : ¬ l = 112 := fun d => hb (by simp [d])
  have b2 : ¬ l = 115 := fun d => hb (by simp [d])
  have b3 : ¬ l = 105 := fun d => hb (by simp [d])
  have b4 : ¬ l = 119 := fun d => hb (by simp [d])
  have b5 : ¬ l = 102 := fun d => hb (by simp [d])
  have b6 : ¬ l = 111 := fun d => hb (by simp [d])
  have b7 : ¬ l = 116 := fun d => hb (by simp [d])
  have b8 : ¬ l = 97 := fun d => hb (by simp [d])
  have h := order_bad (PM mm a 0) (l := l) (hv ▸ v1_e (a := a) hl hn ha) (by rw [if_neg b1, if_neg b2, if_neg b3, if_neg b4, if_neg b5, if_neg b6, if_neg b7, if_neg b8]) rfl
  rw [h]
  show ordT l (M8 (M9 (PM mm a 0) 1) (nI a + 0)) 0 = _
  rw [i_add0]
  show ordT l (PM mm a 1) 0 = _
  obtain ⟨v, hd⟩ := digit_1 (a := a) hl hn ha
  unfold ordT
  rw [if_neg b4, if_neg b5, if_neg b7, b_eta, ob hd, if_neg b2, ob rfl, if_neg b4, ob rfl, if_neg b1, if_neg b2, if_neg b3, if_neg b4, ob rfl, if_neg b3, ob rfl, if_pos rfl]
end PU
/-! an order: both readers alike -/
def EX (hh : HH) (q : PP) (mm : MM) (a a' : Nat) : Prop := ∀ (B : Nat) (t : TT), B < 1000000 → RT B t mm.1 → UI mm.1 → ∃ r r' t' u', f_X3_carryOutOrder t hh q = some (r, t') ∧ f_X4_order (PM mm a 0) 1 = some (r', M0 (PM mm a' 0) u') ∧ RT (B + 1) t' u' ∧ UI u' ∧ (IsE r ↔ IsE r')
def OB (pp : PP) (g : Nat → Int32) (n a : Nat) (q0 : PP) : Prop :=
  (∃ a' l1 m1 f1, a + 2 ≤ a' ∧ a' ≤ n ∧ f_X1_readOrder q0 = some (1, QS pp l1 a' m1 f1) ∧ ∀ mm : MM, mm.2.2.2.2.2.2.1 = g → mm.2.2.2.2.2.2.2.1 = nI n → f_X4_order (PM mm a 0) 0 = some (0, PM mm a' 0) ∧ ∀ hh, EX hh (QS pp l1 a' m1 f1) mm a a') ∨
  (∃ a' l1 m1 f1, a' ≤ n ∧ f_X1_readOrder q0 = some (0, QS pp l1 a' m1 f1) ∧ ∀ mm : MM, mm.2.2.2.2.2.2.1 = g → mm.2.2.2.2.2.2.2.1 = nI n → f_X4_order (PM mm a 0) 0 = some (0, PM mm a' 1))
section PV
variable {pp : PP} {n a m : Nat} {l w : Int32} {f : Nat → Int32} {g : Nat → Int32}
theorem co_p (t : TT) (hh : HH) {q : PP} {x y z : Int32} (hx : f_X1_number q 0 = some x) (hy : f_X1_number q 1 = some y) (hz : f_X1_number q 2 = some z) (hq : q.2.2.2.1 = 112) : f_X3_carryOutOrder t hh q = f_X2_addPerson t x y := by
  unfold f_X3_carryOutOrder
  rw [ob hx, ob hy, hq, if_neg (by decide), if_neg (by decide), if_neg (by decide), if_neg (by decide), if_neg (by decide), if_neg (by decide), if_neg (by decide), if_neg (by decide), if_neg (by decide), if_neg (by decide), if_neg (by decide), if_neg (by decide), if_neg (by decide), if_neg (by decide), if_neg (by decide), if_pos rfl, b_eta]
theorem co_s (t : TT) (hh : HH) {q : PP} {x y z : Int32} (hx : f_X1_number q 0 = some x) (hy : f_X1_number q 1 = some y) (hz : f_X1_number q 2 = some z) (hq : q.2.2.2.1 = 115) : f_X3_carryOutOrder t hh q = f_X2_takeSecond t x y := by
  unfold f_X3_carryOutOrder
  rw [ob hx, ob hy, hq, if_neg (by decide), if_neg (by decide), if_neg (by decide), if_neg (by decide), if_neg (by decide), if_neg (by decide), if_neg (by decide), if_neg (by decide), if_neg (by decide), if_neg (by decide), if_neg (by decide), if_neg (by decide), if_neg (by decide), if_neg (by decide), if_neg (by decide), if_neg (by decide), if_neg (by decide), if_neg (by decide), if_pos rfl, b_eta]
theorem co_i (t : TT) (hh : HH) {q : PP} {x y z : Int32} (hx : f_X1_number q 0 = some x) (hy : f_X1_number q 1 = some y) (hz : f_X1_number q 2 = some z) (hq : q.2.2.2.1 = 105) : f_X3_carryOutOrder t hh q = f_X2_addQuarrel t x y z := by
  unfold f_X3_carryOutOrder
  rw [ob hx, ob hy, hq, if_neg (by decide), if_neg (by decide), if_neg (by decide), if_neg (by decide), if_neg (by decide), if_neg (by decide), if_neg (by decide), if_neg (by decide), if_pos rfl, ob hz, b_eta]
theorem co_w (t : TT) (hh : HH) {q : PP} {x y z : Int32} (hx : f_X1_number q 0 = some x) (hy : f_X1_number q 1 = some y) (hz : f_X1_number q 2 = some z) (hq : q.2.2.2.1 = 119) : f_X3_carryOutOrder t hh q = f_X2_settleBy t x y := by
  unfold f_X3_carryOutOrder
  rw [ob hx, ob hy, hq, if_neg (by decide), if_neg (by decide), if_neg (by decide), if_neg (by decide), if_neg (by decide), if_neg (by decide), if_neg (by decide), if_neg (by decide), if_neg (by decide), if_neg (by decide), if_neg (by decide), if_neg (by decide), if_neg (by decide), if_neg (by decide), if_neg (by decide), if_neg (by decide), if_neg (by decide), if_neg (by decide), if_neg (by decide), if_neg (by decide), if_neg (by decide), if_neg (by decide), if_pos rfl, b_eta]
theorem co_f (t : TT) (hh : HH) {q : PP} {x y z : Int32} (hx : f_X1_number q 0 = some x) (hy : f_X1_number q 1 = some y) (hz : f_X1_number q 2 = some z) (hq : q.2.2.2.1 = 102) : f_X3_carryOutOrder t hh q = f_X2_duel t x := by
  unfold f_X3_carryOutOrder
  rw [ob hx, ob hy, hq, if_neg (by decide), if_neg (by decide), if_neg (by decide), if_neg (by decide), if_neg (by decide), if_pos rfl, b_eta]
theorem co_t (t : TT) (hh : HH) {q : PP} {x y z : Int32} (hx : f_X1_number q 0 = some x) (hy : f_X1_number q 1 = some y) (hz : f_X1_number q 2 = some z) (hq : q.2.2.2.1 = 116) : f_X3_carryOutOrder t hh q = f_X2_moveOn t x := by
  unfold f_X3_carryOutOrder
  rw [ob hx, ob hy, hq, if_neg (by decide), if_neg (by decide), if_neg (by decide), if_neg (by decide), if_neg (by decide), if_neg (by decide), if_neg (by decide), if_neg (by decide), if_neg (by decide), if_neg (by decide), if_neg (by decide), if_neg (by decide), if_neg (by decide), if_neg (by decide), if_neg (by decide), if_neg (by decide), if_neg (by decide), if_neg (by decide), if_neg (by decide), if_pos rfl, b_eta]
theorem co_o (t : TT) (hh : HH) {q : PP} {x y z : Int32} (hx : f_X1_number q 0 = some x) (hy : f_X1_number q 1 = some y) (hz : f_X1_number q 2 = some z) (hq : q.2.2.2.1 = 111) : f_X3_carryOutOrder t hh q = f_X2_takeOath t x := by
  unfold f_X3_carryOutOrder
  rw [ob hx, ob hy, hq, if_neg (by decide), if_neg (by decide), if_neg (by decide), if_neg (by decide), if_neg (by decide), if_neg (by decide), if_neg (by decide), if_neg (by decide), if_neg (by decide), if_neg (by decide), if_neg (by decide), if_neg (by decide), if_neg (by decide), if_neg (by decide), if_pos rfl, b_eta]
theorem co_a (t : TT) (hh : HH) {q : PP} {x y z : Int32} (hx : f_X1_number q 0 = some x) (hy : f_X1_number q 1 = some y) (hz : f_X1_number q 2 = some z) (hq : q.2.2.2.1 = 97) : f_X3_carryOutOrder t hh q = f_X2_allowOrBar t x := by
  unfold f_X3_carryOutOrder
  rw [ob hx, ob hy, hq, if_pos rfl, b_eta]
theorem ord_f (hl : pp.2.1 = nI n) (hn : n ≤ 80) (hg : ∀ i, i < n → pp.1 i = g i) (ha : a < n) (es : Sg pp.1 n a = Sg g n a) (hv : Sg g n a = 102) : OB pp g n a (QW pp l a w f) := by
  have hro : f_X1_readOrder (QW pp l a w f) = run [110] (QS pp 102 (a + 1) 0 f) := by
    rw [readOrder_e hl hn (by omega) (i := 4) (es.trans hv) (by decide) (by decide +kernel), form_4]
  rcases num_both (pp := pp) (l := 102) (m := 0) (f := f) (a := a + 1) hl hn hg (by omega) (by decide) with ⟨V0, A0, B0, C0, R0, X0⟩ | ⟨R0, X0⟩
  · refine Or.inl ⟨A0, 102, 1, upd (f) 0 V0, by omega, by omega, ?_, fun mm h1 h2 => ?_⟩
    · rw [hro, run, ob R0, if_neg n10, run]
    · have hv1 : Sg mm.2.2.2.2.2.2.1 n a = 102 := by rw [h1]; exact hv
      have H0 := X0 mm h1 h2
      refine ⟨?_, fun hh B t hB hRT hUI => ?_⟩
      · rw [ord_e h2 hn (by omega) hv1 (by decide) 0]
        unfold ordT
        rw [if_neg (by decide), if_pos rfl, b_eta, ob H0, if_neg (by decide), ob rfl, if_neg (by decide), ob rfl, if_neg (by decide), if_neg (by decide), if_neg (by decide), if_neg (by decide), ob rfl, if_neg (by decide), ob rfl, if_pos rfl]
      · have Y0 := number_e (pp := pp) (l := 102) (a := A0) (m := 1) (f := upd (f) 0 V0) (by decide) (j := 0) (by decide)
        have Y1 := number_e (pp := pp) (l := 102) (a := A0) (m := 1) (f := upd (f) 0 V0) (by decide) (j := 1) (by decide)
        have Y2 := number_e (pp := pp) (l := 102) (a := A0) (m := 1) (f := upd (f) 0 V0) (by decide) (j := 2) (by decide)
        have HC : f_X3_carryOutOrder t hh (QS pp 102 (A0) 1 (upd (f) 0 V0)) = f_X2_duel t V0 := co_f t hh Y0 Y1 Y2 rfl
        have HX : ∀ r u1, f_X4_fights mm.1 V0 = some (r, u1) → f_X4_order (PM mm a 0) 1 = some (r, M0 (PM mm (A0) 0) u1) := fun r u1 o2 => by
          rw [ord_e h2 hn (by omega) hv1 (by decide) 1]
          unfold ordT
          rw [if_neg (by decide), if_pos rfl, b_eta, ob H0, if_neg (by decide), ob rfl, if_neg (by decide), ob rfl, if_neg (by decide), if_neg (by decide), if_neg (by decide), if_neg (by decide), ob rfl, if_neg (by decide), ob rfl, if_neg n10, if_pos rfl]
          show ((f_X4_fights mm.1 V0).bind fun x45 => some (x45.1, M0 (PM mm (A0) 0) x45.2)) = _
          rw [ob o2]
        obtain ⟨hS, np, nq, hN⟩ := hUI
        obtain ⟨r, t1, u1, o1, o2, o3, o4⟩ := op_fight hRT hB hS hN V0
        exact ⟨r, r, t1, u1, HC.trans o1, HX r u1 o2, o3, o4, Iff.rfl⟩
  · refine Or.inr ⟨a + 1, 102, 0, f, by omega, ?_, fun mm h1 h2 => ?_⟩
    · rw [hro, run, ob R0, if_pos rfl]
    · have hv1 : Sg mm.2.2.2.2.2.2.1 n a = 102 := by rw [h1]; exact hv
      obtain ⟨W0, H0⟩ := X0 mm h1 h2
      rw [ord_e h2 hn (by omega) hv1 (by decide) 0]
      unfold ordT
      rw [if_neg (by decide), if_pos rfl, b_eta, ob H0, if_neg (by decide), ob rfl, if_neg (by decide), ob rfl, if_neg (by decide), if_neg (by decide), if_neg (by decide), if_neg (by decide), ob rfl, if_neg (by decide), ob rfl, if_pos rfl]
theorem ord_t (hl : pp.2.1 = nI n) (hn : n ≤ 80) (hg : ∀ i, i < n → pp.1 i = g i) (ha : a < n) (es : Sg pp.1 n a = Sg g n a) (hv : Sg g n a = 116) : OB pp g n a (QW pp l a w f) := by
  have hro : f_X1_readOrder (QW pp l a w f) = run [110] (QS pp 116 (a + 1) 0 f) := by
    rw [readOrder_e hl hn (by omega) (i := 4) (es.trans hv) (by decide) (by decide +kernel), form_4]
  rcases num_both (pp := pp) (l := 116) (m := 0) (f := f) (a := a + 1) hl hn hg (by omega) (by decide) with ⟨V0, A0, B0, C0, R0, X0⟩ | ⟨R0, X0⟩
  · refine Or.inl ⟨A0, 116, 1, upd (f) 0 V0, by omega, by omega, ?_, fun mm h1 h2 => ?_⟩
    · rw [hro, run, ob R0, if_neg n10, run]
    · have hv1 : Sg mm.2.2.2.2.2.2.1 n a = 116 := by rw [h1]; exact hv
      have H0 := X0 mm h1 h2
      refine ⟨?_, fun hh B t hB hRT hUI => ?_⟩
      · rw [ord_e h2 hn (by omega) hv1 (by decide) 0]
        unfold ordT
        rw [if_neg (by decide), if_neg (by decide), if_pos rfl, b_eta, ob H0, if_neg (by decide), ob rfl, if_neg (by decide), ob rfl, if_neg (by decide), if_neg (by decide), if_neg (by decide), if_neg (by decide), ob rfl, if_neg (by decide), ob rfl, if_pos rfl]
      · have Y0 := number_e (pp := pp) (l := 116) (a := A0) (m := 1) (f := upd (f) 0 V0) (by decide) (j := 0) (by decide)
        have Y1 := number_e (pp := pp) (l := 116) (a := A0) (m := 1) (f := upd (f) 0 V0) (by decide) (j := 1) (by decide)
        have Y2 := number_e (pp := pp) (l := 116) (a := A0) (m := 1) (f := upd (f) 0 V0) (by decide) (j := 2) (by decide)
        have HC : f_X3_carryOutOrder t hh (QS pp 116 (A0) 1 (upd (f) 0 V0)) = f_X2_moveOn t V0 := co_t t hh Y0 Y1 Y2 rfl
        have HX : ∀ r u1, f_X4_passes mm.1 V0 = some (r, u1) → f_X4_order (PM mm a 0) 1 = some (r, M0 (PM mm (A0) 0) u1) := fun r u1 o2 => by
          rw [ord_e h2 hn (by omega) hv1 (by decide) 1]
          unfold ordT
          rw [if_neg (by decide), if_neg (by decide), if_pos rfl, b_eta, ob H0, if_neg (by decide), ob rfl, if_neg (by decide), ob rfl, if_neg (by decide), if_neg (by decide), if_neg (by decide), if_neg (by decide), ob rfl, if_neg (by decide), ob rfl, if_neg n10, if_neg (by decide), if_neg (by decide), if_neg (by decide), if_neg (by decide), if_neg (by decide), if_neg (by decide), if_neg (by decide), if_neg (by decide), if_neg (by decide), if_neg (by decide), if_neg (by decide), if_neg (by decide), if_neg (by decide), if_neg (by decide), if_pos rfl]
          show ((f_X4_passes mm.1 V0).bind fun x45 => some (x45.1, M0 (PM mm (A0) 0) x45.2)) = _
          rw [ob o2]
        obtain ⟨hS, np, nq, hN⟩ := hUI
        rcases op_pass hRT hS hN V0 with ⟨r, c1, c2, o1, o2⟩ | ⟨r, r1, t1, u1, d, c1, c2, o1, o2, o3, o4, o5, o6⟩
        · exact ⟨r, r, t, mm.1, HC.trans o1, HX r mm.1 o2, hRT.mono (Nat.le_succ B), ⟨hS, np, nq, hN⟩, Iff.rfl⟩
        · exact ⟨r, r1, t1, u1, HC.trans o1, HX r1 u1 o2, o5.mono (Nat.le_succ B), o6, ⟨fun e => absurd c1 e.1, fun e => absurd c2 e.1⟩⟩
  · refine Or.inr ⟨a + 1, 116, 0, f, by omega, ?_, fun mm h1 h2 => ?_⟩
    · rw [hro, run, ob R0, if_pos rfl]
    · have hv1 : Sg mm.2.2.2.2.2.2.1 n a = 116 := by rw [h1]; exact hv
      obtain ⟨W0, H0⟩ := X0 mm h1 h2
      rw [ord_e h2 hn (by omega) hv1 (by decide) 0]
      unfold ordT
      rw [if_neg (by decide), if_neg (by decide), if_pos rfl, b_eta, ob H0, if_neg (by decide), ob rfl, if_neg (by decide), ob rfl, if_neg (by decide), if_neg (by decide), if_neg (by decide), if_neg (by decide), ob rfl, if_neg (by decide), ob rfl, if_pos rfl]
theorem ord_o (hl : pp.2.1 = nI n) (hn : n ≤ 80) (hg : ∀ i, i < n → pp.1 i = g i) (ha : a < n) (es : Sg pp.1 n a = Sg g n a) (hv : Sg g n a = 111) : OB pp g n a (QW pp l a w f) := by
  have hro : f_X1_readOrder (QW pp l a w f) = run [100] (QS pp 111 (a + 1) 0 f) := by
    rw [readOrder_e hl hn (by omega) (i := 5) (es.trans hv) (by decide) (by decide +kernel), form_5]
  rcases dig_both (pp := pp) (l := 111) (m := 0) (f := f) (a := a + 1) hl hn hg (by omega) (by decide) with ⟨V0, B0, _, R0, X0⟩ | ⟨R0, X0⟩
  · refine Or.inl ⟨a + 2, 111, 1, upd (f) 0 V0, by omega, by omega, ?_, fun mm h1 h2 => ?_⟩
    · rw [hro, run, ob R0, if_neg n10, run]
    · have hv1 : Sg mm.2.2.2.2.2.2.1 n a = 111 := by rw [h1]; exact hv
      have H0 := X0 mm h1 h2
      refine ⟨?_, fun hh B t hB hRT hUI => ?_⟩
      · rw [ord_e h2 hn (by omega) hv1 (by decide) 0]
        unfold ordT
        rw [if_neg (by decide), if_neg (by decide), if_neg (by decide), b_eta, ob H0, if_neg (by decide), ob rfl, if_neg (by decide), ob rfl, if_neg (by decide), if_neg (by decide), if_neg (by decide), if_neg (by decide), ob rfl, if_neg (by decide), ob rfl, if_pos rfl]
      · have Y0 := number_e (pp := pp) (l := 111) (a := a + 2) (m := 1) (f := upd (f) 0 V0) (by decide) (j := 0) (by decide)
        have Y1 := number_e (pp := pp) (l := 111) (a := a + 2) (m := 1) (f := upd (f) 0 V0) (by decide) (j := 1) (by decide)
        have Y2 := number_e (pp := pp) (l := 111) (a := a + 2) (m := 1) (f := upd (f) 0 V0) (by decide) (j := 2) (by decide)
        have HC : f_X3_carryOutOrder t hh (QS pp 111 (a + 2) 1 (upd (f) 0 V0)) = f_X2_takeOath t V0 := co_o t hh Y0 Y1 Y2 rfl
        have HX : ∀ r u1, f_X4_swears mm.1 V0 = some (r, u1) → f_X4_order (PM mm a 0) 1 = some (r, M0 (PM mm (a + 2) 0) u1) := fun r u1 o2 => by
          rw [ord_e h2 hn (by omega) hv1 (by decide) 1]
          unfold ordT
          rw [if_neg (by decide), if_neg (by decide), if_neg (by decide), b_eta, ob H0, if_neg (by decide), ob rfl, if_neg (by decide), ob rfl, if_neg (by decide), if_neg (by decide), if_neg (by decide), if_neg (by decide), ob rfl, if_neg (by decide), ob rfl, if_neg n10, if_neg (by decide), if_neg (by decide), if_neg (by decide), if_neg (by decide), if_neg (by decide), if_neg (by decide), if_neg (by decide), if_neg (by decide), if_neg (by decide), if_pos rfl]
          show ((f_X4_swears mm.1 V0).bind fun x45 => some (x45.1, M0 (PM mm (a + 2) 0) x45.2)) = _
          rw [ob o2]
        obtain ⟨hS, np, nq, hN⟩ := hUI
        obtain ⟨r, t1, u1, o1, o2, o3, o4⟩ := op_swear hRT hB hS hN V0
        exact ⟨r, r, t1, u1, HC.trans o1, HX r u1 o2, o3, o4, Iff.rfl⟩
  · refine Or.inr ⟨a + 1, 111, 0, f, by omega, ?_, fun mm h1 h2 => ?_⟩
    · rw [hro, run, ob R0, if_pos rfl]
    · have hv1 : Sg mm.2.2.2.2.2.2.1 n a = 111 := by rw [h1]; exact hv
      obtain ⟨W0, H0⟩ := X0 mm h1 h2
      rw [ord_e h2 hn (by omega) hv1 (by decide) 0]
      unfold ordT
      rw [if_neg (by decide), if_neg (by decide), if_neg (by decide), b_eta, ob H0, if_neg (by decide), ob rfl, if_neg (by decide), ob rfl, if_neg (by decide), if_neg (by decide), if_neg (by decide), if_neg (by decide), ob rfl, if_neg (by decide), ob rfl, if_pos rfl]
theorem ord_a (hl : pp.2.1 = nI n) (hn : n ≤ 80) (hg : ∀ i, i < n → pp.1 i = g i) (ha : a < n) (es : Sg pp.1 n a = Sg g n a) (hv : Sg g n a = 97) : OB pp g n a (QW pp l a w f) := by
  have hro : f_X1_readOrder (QW pp l a w f) = run [100] (QS pp 97 (a + 1) 0 f) := by
    rw [readOrder_e hl hn (by omega) (i := 5) (es.trans hv) (by decide) (by decide +kernel), form_5]
  rcases dig_both (pp := pp) (l := 97) (m := 0) (f := f) (a := a + 1) hl hn hg (by omega) (by decide) with ⟨V0, B0, _, R0, X0⟩ | ⟨R0, X0⟩
  · refine Or.inl ⟨a + 2, 97, 1, upd (f) 0 V0, by omega, by omega, ?_, fun mm h1 h2 => ?_⟩
    · rw [hro, run, ob R0, if_neg n10, run]
    · have hv1 : Sg mm.2.2.2.2.2.2.1 n a = 97 := by rw [h1]; exact hv
      have H0 := X0 mm h1 h2
      refine ⟨?_, fun hh B t hB hRT hUI => ?_⟩
      · rw [ord_e h2 hn (by omega) hv1 (by decide) 0]
        unfold ordT
        rw [if_neg (by decide), if_neg (by decide), if_neg (by decide), b_eta, ob H0, if_neg (by decide), ob rfl, if_neg (by decide), ob rfl, if_neg (by decide), if_neg (by decide), if_neg (by decide), if_neg (by decide), ob rfl, if_neg (by decide), ob rfl, if_pos rfl]
      · have Y0 := number_e (pp := pp) (l := 97) (a := a + 2) (m := 1) (f := upd (f) 0 V0) (by decide) (j := 0) (by decide)
        have Y1 := number_e (pp := pp) (l := 97) (a := a + 2) (m := 1) (f := upd (f) 0 V0) (by decide) (j := 1) (by decide)
        have Y2 := number_e (pp := pp) (l := 97) (a := a + 2) (m := 1) (f := upd (f) 0 V0) (by decide) (j := 2) (by decide)
        have HC : f_X3_carryOutOrder t hh (QS pp 97 (a + 2) 1 (upd (f) 0 V0)) = f_X2_allowOrBar t V0 := co_a t hh Y0 Y1 Y2 rfl
        have HX : ∀ r u1, f_X4_turns mm.1 V0 = some (r, u1) → f_X4_order (PM mm a 0) 1 = some (r, M0 (PM mm (a + 2) 0) u1) := fun r u1 o2 => by
          rw [ord_e h2 hn (by omega) hv1 (by decide) 1]
          unfold ordT
          rw [if_neg (by decide), if_neg (by decide), if_neg (by decide), b_eta, ob H0, if_neg (by decide), ob rfl, if_neg (by decide), ob rfl, if_neg (by decide), if_neg (by decide), if_neg (by decide), if_neg (by decide), ob rfl, if_neg (by decide), ob rfl, if_neg n10, if_neg (by decide), if_neg (by decide), if_neg (by decide), if_neg (by decide), if_neg (by decide), if_neg (by decide), if_neg (by decide), if_neg (by decide), if_neg (by decide), if_neg (by decide), if_neg (by decide), if_neg (by decide), if_neg (by decide), if_neg (by decide), if_neg (by decide), if_neg (by decide), if_neg (by decide), if_neg (by decide)]
          show ((f_X4_turns mm.1 V0).bind fun x45 => some (x45.1, M0 (PM mm (a + 2) 0) x45.2)) = _
          rw [ob o2]
        obtain ⟨hS, np, nq, hN⟩ := hUI
        obtain ⟨r, t1, u1, o1, o2, o3, o4⟩ := wk (Nat.le_succ B) (op_allow hRT hS hN V0)
        exact ⟨r, r, t1, u1, HC.trans o1, HX r u1 o2, o3, o4, Iff.rfl⟩
  · refine Or.inr ⟨a + 1, 97, 0, f, by omega, ?_, fun mm h1 h2 => ?_⟩
    · rw [hro, run, ob R0, if_pos rfl]
    · have hv1 : Sg mm.2.2.2.2.2.2.1 n a = 97 := by rw [h1]; exact hv
      obtain ⟨W0, H0⟩ := X0 mm h1 h2
      rw [ord_e h2 hn (by omega) hv1 (by decide) 0]
      unfold ordT
      rw [if_neg (by decide), if_neg (by decide), if_neg (by decide), b_eta, ob H0, if_neg (by decide), ob rfl, if_neg (by decide), ob rfl, if_neg (by decide), if_neg (by decide), if_neg (by decide), if_neg (by decide), ob rfl, if_neg (by decide), ob rfl, if_pos rfl]
theorem ord_p (hl : pp.2.1 = nI n) (hn : n ≤ 80) (hg : ∀ i, i < n → pp.1 i = g i) (ha : a < n) (es : Sg pp.1 n a = Sg g n a) (hv : Sg g n a = 112) : OB pp g n a (QW pp l a w f) := by
  have hro : f_X1_readOrder (QW pp l a w f) = run [100, 100] (QS pp 112 (a + 1) 0 f) := by
    rw [readOrder_e hl hn (by omega) (i := 0) (es.trans hv) (by decide) (by decide +kernel), form_0]
  rcases dig_both (pp := pp) (l := 112) (m := 0) (f := f) (a := a + 1) hl hn hg (by omega) (by decide) with ⟨V0, B0, _, R0, X0⟩ | ⟨R0, X0⟩
  · rcases dig_both (pp := pp) (l := 112) (m := 1) (f := upd (f) 0 V0) (a := a + 2) hl hn hg (by omega) (by decide) with ⟨V1, B1, _, R1, X1⟩ | ⟨R1, X1⟩
    · refine Or.inl ⟨a + 3, 112, 2, upd (upd (f) 0 V0) 1 V1, by omega, by omega, ?_, fun mm h1 h2 => ?_⟩
      · rw [hro, run, ob R0, if_neg n10, run, ob R1, if_neg n10, run]
      · have hv1 : Sg mm.2.2.2.2.2.2.1 n a = 112 := by rw [h1]; exact hv
        have H0 := X0 mm h1 h2
        have H1 := X1 mm h1 h2
        refine ⟨?_, fun hh B t hB hRT hUI => ?_⟩
        · rw [ord_e h2 hn (by omega) hv1 (by decide) 0]
          unfold ordT
          rw [if_neg (by decide), if_neg (by decide), if_neg (by decide), b_eta, ob H0, if_neg (by decide), ob rfl, if_neg (by decide), ob rfl, if_pos rfl, b_eta, ob H1, if_neg (by decide), ob rfl, if_pos rfl]
        · have Y0 := number_e (pp := pp) (l := 112) (a := a + 3) (m := 2) (f := upd (upd (f) 0 V0) 1 V1) (by decide) (j := 0) (by decide)
          have Y1 := number_e (pp := pp) (l := 112) (a := a + 3) (m := 2) (f := upd (upd (f) 0 V0) 1 V1) (by decide) (j := 1) (by decide)
          have Y2 := number_e (pp := pp) (l := 112) (a := a + 3) (m := 2) (f := upd (upd (f) 0 V0) 1 V1) (by decide) (j := 2) (by decide)
          have HC : f_X3_carryOutOrder t hh (QS pp 112 (a + 3) 2 (upd (upd (f) 0 V0) 1 V1)) = f_X2_addPerson t V0 V1 := co_p t hh Y0 Y1 Y2 rfl
          have HX : ∀ r u1, f_X4_comes mm.1 V0 V1 = some (r, u1) → f_X4_order (PM mm a 0) 1 = some (r, M0 (PM mm (a + 3) 0) u1) := fun r u1 o2 => by
            rw [ord_e h2 hn (by omega) hv1 (by decide) 1]
            unfold ordT
            rw [if_neg (by decide), if_neg (by decide), if_neg (by decide), b_eta, ob H0, if_neg (by decide), ob rfl, if_neg (by decide), ob rfl, if_pos rfl, b_eta, ob H1, if_neg (by decide), ob rfl, if_neg n10, if_neg (by decide), if_neg (by decide), if_neg (by decide), if_neg (by decide), if_neg (by decide), if_neg (by decide), if_neg (by decide), if_neg (by decide), if_neg (by decide), if_neg (by decide), if_pos rfl]
            show ((f_X4_comes mm.1 V0 V1).bind fun x45 => some (x45.1, M0 (PM mm (a + 3) 0) x45.2)) = _
            rw [ob o2]
          obtain ⟨hS, np, nq, hN⟩ := hUI
          obtain ⟨r, t1, u1, o1, o2, o3, o4⟩ := wk (Nat.le_succ B) (op_person hRT hS hN V0 V1)
          exact ⟨r, r, t1, u1, HC.trans o1, HX r u1 o2, o3, o4, Iff.rfl⟩
    · refine Or.inr ⟨a + 2, 112, 1, upd (f) 0 V0, by omega, ?_, fun mm h1 h2 => ?_⟩
      · rw [hro, run, ob R0, if_neg n10, run, ob R1, if_pos rfl]
      · have hv1 : Sg mm.2.2.2.2.2.2.1 n a = 112 := by rw [h1]; exact hv
        have H0 := X0 mm h1 h2
        obtain ⟨W1, H1⟩ := X1 mm h1 h2
        rw [ord_e h2 hn (by omega) hv1 (by decide) 0]
        unfold ordT
        rw [if_neg (by decide), if_neg (by decide), if_neg (by decide), b_eta, ob H0, if_neg (by decide), ob rfl, if_neg (by decide), ob rfl, if_pos rfl, b_eta, ob H1, if_neg (by decide), ob rfl, if_pos rfl]
  · refine Or.inr ⟨a + 1, 112, 0, f, by omega, ?_, fun mm h1 h2 => ?_⟩
    · rw [hro, run, ob R0, if_pos rfl]
    · have hv1 : Sg mm.2.2.2.2.2.2.1 n a = 112 := by rw [h1]; exact hv
      obtain ⟨W0, H0⟩ := X0 mm h1 h2
      obtain ⟨W1, H1⟩ := digit_1 (mm := mm) (a := a + 1) h2 hn (by omega)
      rw [ord_e h2 hn (by omega) hv1 (by decide) 0]
      unfold ordT
      rw [if_neg (by decide), if_neg (by decide), if_neg (by decide), b_eta, ob H0, if_neg (by decide), ob rfl, if_neg (by decide), ob rfl, if_pos rfl, b_eta, ob H1, if_neg (by decide), ob rfl, if_pos rfl]
theorem ord_s (hl : pp.2.1 = nI n) (hn : n ≤ 80) (hg : ∀ i, i < n → pp.1 i = g i) (ha : a < n) (es : Sg pp.1 n a = Sg g n a) (hv : Sg g n a = 115) : OB pp g n a (QW pp l a w f) := by
  have hro : f_X1_readOrder (QW pp l a w f) = run [100, 62, 100] (QS pp 115 (a + 1) 0 f) := by
    rw [readOrder_e hl hn (by omega) (i := 1) (es.trans hv) (by decide) (by decide +kernel), form_1]
  rcases dig_both (pp := pp) (l := 115) (m := 0) (f := f) (a := a + 1) hl hn hg (by omega) (by decide) with ⟨V0, B0, _, R0, X0⟩ | ⟨R0, X0⟩
  · rcases sig_both (pp := pp) (l := 115) (m := 1) (f := upd (f) 0 V0) (a := a + 2) (z := 62) hl hn hg (by omega) (by decide) (by decide) (by decide) with ⟨B1, R1, X1⟩ | ⟨R1, X1⟩
    · rcases dig_both (pp := pp) (l := 115) (m := 1) (f := upd (f) 0 V0) (a := a + 3) hl hn hg (by omega) (by decide) with ⟨V2, B2, _, R2, X2⟩ | ⟨R2, X2⟩
      · refine Or.inl ⟨a + 4, 115, 2, upd (upd (f) 0 V0) 1 V2, by omega, by omega, ?_, fun mm h1 h2 => ?_⟩
        · rw [hro, run, ob R0, if_neg n10, run, ob R1, if_neg n10, run, ob R2, if_neg n10, run]
        · have hv1 : Sg mm.2.2.2.2.2.2.1 n a = 115 := by rw [h1]; exact hv
          have H0 := X0 mm h1 h2
          obtain ⟨W1, H1⟩ := X1 mm h1 h2
          have H2 := X2 mm h1 h2
          refine ⟨?_, fun hh B t hB hRT hUI => ?_⟩
          · rw [ord_e h2 hn (by omega) hv1 (by decide) 0]
            unfold ordT
            rw [if_neg (by decide), if_neg (by decide), if_neg (by decide), b_eta, ob H0, if_pos rfl, ob H1, ob rfl, if_neg (by decide), ob rfl, if_neg (by decide), if_pos rfl, b_eta, ob H2, if_neg (by decide), ob rfl, if_pos rfl]
          · have Y0 := number_e (pp := pp) (l := 115) (a := a + 4) (m := 2) (f := upd (upd (f) 0 V0) 1 V2) (by decide) (j := 0) (by decide)
            have Y1 := number_e (pp := pp) (l := 115) (a := a + 4) (m := 2) (f := upd (upd (f) 0 V0) 1 V2) (by decide) (j := 1) (by decide)
            have Y2 := number_e (pp := pp) (l := 115) (a := a + 4) (m := 2) (f := upd (upd (f) 0 V0) 1 V2) (by decide) (j := 2) (by decide)
            have HC : f_X3_carryOutOrder t hh (QS pp 115 (a + 4) 2 (upd (upd (f) 0 V0) 1 V2)) = f_X2_takeSecond t V0 V2 := co_s t hh Y0 Y1 Y2 rfl
            have HX : ∀ r u1, f_X4_takes mm.1 V0 V2 = some (r, u1) → f_X4_order (PM mm a 0) 1 = some (r, M0 (PM mm (a + 4) 0) u1) := fun r u1 o2 => by
              rw [ord_e h2 hn (by omega) hv1 (by decide) 1]
              unfold ordT
              rw [if_neg (by decide), if_neg (by decide), if_neg (by decide), b_eta, ob H0, if_pos rfl, ob H1, ob rfl, if_neg (by decide), ob rfl, if_neg (by decide), if_pos rfl, b_eta, ob H2, if_neg (by decide), ob rfl, if_neg n10, if_neg (by decide), if_neg (by decide), if_neg (by decide), if_neg (by decide), if_neg (by decide), if_neg (by decide), if_neg (by decide), if_neg (by decide), if_neg (by decide), if_neg (by decide), if_neg (by decide), if_neg (by decide), if_neg (by decide), if_pos rfl]
              show ((f_X4_takes mm.1 V0 V2).bind fun x45 => some (x45.1, M0 (PM mm (a + 4) 0) x45.2)) = _
              rw [ob o2]
            obtain ⟨hS, np, nq, hN⟩ := hUI
            obtain ⟨r, t1, u1, o1, o2, o3, o4⟩ := wk (Nat.le_succ B) (op_second hRT hS hN V0 V2)
            exact ⟨r, r, t1, u1, HC.trans o1, HX r u1 o2, o3, o4, Iff.rfl⟩
      · refine Or.inr ⟨a + 3, 115, 1, upd (f) 0 V0, by omega, ?_, fun mm h1 h2 => ?_⟩
        · rw [hro, run, ob R0, if_neg n10, run, ob R1, if_neg n10, run, ob R2, if_pos rfl]
        · have hv1 : Sg mm.2.2.2.2.2.2.1 n a = 115 := by rw [h1]; exact hv
          have H0 := X0 mm h1 h2
          obtain ⟨W1, H1⟩ := X1 mm h1 h2
          obtain ⟨W2, H2⟩ := X2 mm h1 h2
          rw [ord_e h2 hn (by omega) hv1 (by decide) 0]
          unfold ordT
          rw [if_neg (by decide), if_neg (by decide), if_neg (by decide), b_eta, ob H0, if_pos rfl, ob H1, ob rfl, if_neg (by decide), ob rfl, if_neg (by decide), if_pos rfl, b_eta, ob H2, if_neg (by decide), ob rfl, if_pos rfl]
    · refine Or.inr ⟨a + 2, 115, 1, upd (f) 0 V0, by omega, ?_, fun mm h1 h2 => ?_⟩
      · rw [hro, run, ob R0, if_neg n10, run, ob R1, if_pos rfl]
      · have hv1 : Sg mm.2.2.2.2.2.2.1 n a = 115 := by rw [h1]; exact hv
        have H0 := X0 mm h1 h2
        obtain ⟨W1, H1⟩ := X1 mm h1 h2
        obtain ⟨W2, H2⟩ := digit_1 (mm := mm) (a := a + 2) h2 hn (by omega)
        rw [ord_e h2 hn (by omega) hv1 (by decide) 0]
        unfold ordT
        rw [if_neg (by decide), if_neg (by decide), if_neg (by decide), b_eta, ob H0, if_pos rfl, ob H1, ob rfl, if_neg (by decide), ob rfl, if_neg (by decide), if_pos rfl, b_eta, ob H2, if_neg (by decide), ob rfl, if_pos rfl]
  · refine Or.inr ⟨a + 1, 115, 0, f, by omega, ?_, fun mm h1 h2 => ?_⟩
    · rw [hro, run, ob R0, if_pos rfl]
    · have hv1 : Sg mm.2.2.2.2.2.2.1 n a = 115 := by rw [h1]; exact hv
      obtain ⟨W0, H0⟩ := X0 mm h1 h2
      obtain ⟨W1, H1⟩ := sign_1 (mm := mm) (a := a + 1) h2 hn (by omega) 62 62
      obtain ⟨W2, H2⟩ := digit_1 (mm := mm) (a := a + 1) h2 hn (by omega)
      rw [ord_e h2 hn (by omega) hv1 (by decide) 0]
      unfold ordT
      rw [if_neg (by decide), if_neg (by decide), if_neg (by decide), b_eta, ob H0, if_pos rfl, ob H1, ob rfl, if_neg (by decide), ob rfl, if_neg (by decide), if_pos rfl, b_eta, ob H2, if_neg (by decide), ob rfl, if_pos rfl]
theorem ord_w (hl : pp.2.1 = nI n) (hn : n ≤ 80) (hg : ∀ i, i < n → pp.1 i = g i) (ha : a < n) (es : Sg pp.1 n a = Sg g n a) (hv : Sg g n a = 119) : OB pp g n a (QW pp l a w f) := by
  have hro : f_X1_readOrder (QW pp l a w f) = run [110, 46, 100] (QS pp 119 (a + 1) 0 f) := by
    rw [readOrder_e hl hn (by omega) (i := 3) (es.trans hv) (by decide) (by decide +kernel), form_3]
  rcases num_both (pp := pp) (l := 119) (m := 0) (f := f) (a := a + 1) hl hn hg (by omega) (by decide) with ⟨V0, A0, B0, C0, R0, X0⟩ | ⟨R0, X0⟩
  · rcases sig_both (pp := pp) (l := 119) (m := 1) (f := upd (f) 0 V0) (a := A0) (z := 46) hl hn hg (by omega) (by decide) (by decide) (by decide) with ⟨B1, R1, X1⟩ | ⟨R1, X1⟩
    · rcases dig_both (pp := pp) (l := 119) (m := 1) (f := upd (f) 0 V0) (a := A0 + 1) hl hn hg (by omega) (by decide) with ⟨V2, B2, _, R2, X2⟩ | ⟨R2, X2⟩
      · refine Or.inl ⟨A0 + 2, 119, 2, upd (upd (f) 0 V0) 1 V2, by omega, by omega, ?_, fun mm h1 h2 => ?_⟩
        · rw [hro, run, ob R0, if_neg n10, run, ob R1, if_neg n10, run, ob R2, if_neg n10, run]
        · have hv1 : Sg mm.2.2.2.2.2.2.1 n a = 119 := by rw [h1]; exact hv
          have H0 := X0 mm h1 h2
          obtain ⟨W1, H1⟩ := X1 mm h1 h2
          have H2 := X2 mm h1 h2
          refine ⟨?_, fun hh B t hB hRT hUI => ?_⟩
          · rw [ord_e h2 hn (by omega) hv1 (by decide) 0]
            unfold ordT
            rw [if_pos rfl, b_eta, ob H0, if_neg (by decide), ob rfl, if_pos rfl, ob H1, ob rfl, if_neg (by decide), if_neg (by decide), if_neg (by decide), if_pos rfl, b_eta, ob H2, if_neg (by decide), ob rfl, if_pos rfl]
          · have Y0 := number_e (pp := pp) (l := 119) (a := A0 + 2) (m := 2) (f := upd (upd (f) 0 V0) 1 V2) (by decide) (j := 0) (by decide)
            have Y1 := number_e (pp := pp) (l := 119) (a := A0 + 2) (m := 2) (f := upd (upd (f) 0 V0) 1 V2) (by decide) (j := 1) (by decide)
            have Y2 := number_e (pp := pp) (l := 119) (a := A0 + 2) (m := 2) (f := upd (upd (f) 0 V0) 1 V2) (by decide) (j := 2) (by decide)
            have HC : f_X3_carryOutOrder t hh (QS pp 119 (A0 + 2) 2 (upd (upd (f) 0 V0) 1 V2)) = f_X2_settleBy t V0 V2 := co_w t hh Y0 Y1 Y2 rfl
            have HX : ∀ r u1, f_X4_settles mm.1 V0 V2 = some (r, u1) → f_X4_order (PM mm a 0) 1 = some (r, M0 (PM mm (A0 + 2) 0) u1) := fun r u1 o2 => by
              rw [ord_e h2 hn (by omega) hv1 (by decide) 1]
              unfold ordT
              rw [if_pos rfl, b_eta, ob H0, if_neg (by decide), ob rfl, if_pos rfl, ob H1, ob rfl, if_neg (by decide), if_neg (by decide), if_neg (by decide), if_pos rfl, b_eta, ob H2, if_neg (by decide), ob rfl, if_neg n10, if_neg (by decide), if_neg (by decide), if_neg (by decide), if_neg (by decide), if_neg (by decide), if_neg (by decide), if_neg (by decide), if_neg (by decide), if_neg (by decide), if_neg (by decide), if_neg (by decide), if_neg (by decide), if_neg (by decide), if_neg (by decide), if_neg (by decide), if_neg (by decide), if_neg (by decide), if_pos rfl]
              show ((f_X4_settles mm.1 V0 V2).bind fun x45 => some (x45.1, M0 (PM mm (A0 + 2) 0) x45.2)) = _
              rw [ob o2]
            obtain ⟨hS, np, nq, hN⟩ := hUI
            obtain ⟨r, t1, u1, o1, o2, o3, o4⟩ := op_settle hRT hB hS hN V0 V2
            exact ⟨r, r, t1, u1, HC.trans o1, HX r u1 o2, o3, o4, Iff.rfl⟩
      · refine Or.inr ⟨A0 + 1, 119, 1, upd (f) 0 V0, by omega, ?_, fun mm h1 h2 => ?_⟩
        · rw [hro, run, ob R0, if_neg n10, run, ob R1, if_neg n10, run, ob R2, if_pos rfl]
        · have hv1 : Sg mm.2.2.2.2.2.2.1 n a = 119 := by rw [h1]; exact hv
          have H0 := X0 mm h1 h2
          obtain ⟨W1, H1⟩ := X1 mm h1 h2
          obtain ⟨W2, H2⟩ := X2 mm h1 h2
          rw [ord_e h2 hn (by omega) hv1 (by decide) 0]
          unfold ordT
          rw [if_pos rfl, b_eta, ob H0, if_neg (by decide), ob rfl, if_pos rfl, ob H1, ob rfl, if_neg (by decide), if_neg (by decide), if_neg (by decide), if_pos rfl, b_eta, ob H2, if_neg (by decide), ob rfl, if_pos rfl]
    · refine Or.inr ⟨A0, 119, 1, upd (f) 0 V0, by omega, ?_, fun mm h1 h2 => ?_⟩
      · rw [hro, run, ob R0, if_neg n10, run, ob R1, if_pos rfl]
      · have hv1 : Sg mm.2.2.2.2.2.2.1 n a = 119 := by rw [h1]; exact hv
        have H0 := X0 mm h1 h2
        obtain ⟨W1, H1⟩ := X1 mm h1 h2
        obtain ⟨W2, H2⟩ := digit_1 (mm := mm) (a := A0) h2 hn (by omega)
        rw [ord_e h2 hn (by omega) hv1 (by decide) 0]
        unfold ordT
        rw [if_pos rfl, b_eta, ob H0, if_neg (by decide), ob rfl, if_pos rfl, ob H1, ob rfl, if_neg (by decide), if_neg (by decide), if_neg (by decide), if_pos rfl, b_eta, ob H2, if_neg (by decide), ob rfl, if_pos rfl]
  · refine Or.inr ⟨a + 1, 119, 0, f, by omega, ?_, fun mm h1 h2 => ?_⟩
    · rw [hro, run, ob R0, if_pos rfl]
    · have hv1 : Sg mm.2.2.2.2.2.2.1 n a = 119 := by rw [h1]; exact hv
      obtain ⟨W0, H0⟩ := X0 mm h1 h2
      obtain ⟨W1, H1⟩ := sign_1 (mm := mm) (a := a + 1) h2 hn (by omega) 46 46
      obtain ⟨W2, H2⟩ := digit_1 (mm := mm) (a := a + 1) h2 hn (by omega)
      rw [ord_e h2 hn (by omega) hv1 (by decide) 0]
      unfold ordT
      rw [if_pos rfl, b_eta, ob H0, if_neg (by decide), ob rfl, if_pos rfl, ob H1, ob rfl, if_neg (by decide), if_neg (by decide), if_neg (by decide), if_pos rfl, b_eta, ob H2, if_neg (by decide), ob rfl, if_pos rfl]
theorem ord_i (hl : pp.2.1 = nI n) (hn : n ≤ 80) (hg : ∀ i, i < n → pp.1 i = g i) (ha : a < n) (es : Sg pp.1 n a = Sg g n a) (hv : Sg g n a = 105) : OB pp g n a (QW pp l a w f) := by
  have hro : f_X1_readOrder (QW pp l a w f) = run [100, 100, 47, 100] (QS pp 105 (a + 1) 0 f) := by
    rw [readOrder_e hl hn (by omega) (i := 2) (es.trans hv) (by decide) (by decide +kernel), form_2]
  rcases dig_both (pp := pp) (l := 105) (m := 0) (f := f) (a := a + 1) hl hn hg (by omega) (by decide) with ⟨V0, B0, _, R0, X0⟩ | ⟨R0, X0⟩
  · rcases dig_both (pp := pp) (l := 105) (m := 1) (f := upd (f) 0 V0) (a := a + 2) hl hn hg (by omega) (by decide) with ⟨V1, B1, _, R1, X1⟩ | ⟨R1, X1⟩
    · rcases sig_both (pp := pp) (l := 105) (m := 2) (f := upd (upd (f) 0 V0) 1 V1) (a := a + 3) (z := 47) hl hn hg (by omega) (by decide) (by decide) (by decide) with ⟨B2, R2, X2⟩ | ⟨R2, X2⟩
      · rcases dig_both (pp := pp) (l := 105) (m := 2) (f := upd (upd (f) 0 V0) 1 V1) (a := a + 4) hl hn hg (by omega) (by decide) with ⟨V3, B3, _, R3, X3⟩ | ⟨R3, X3⟩
        · refine Or.inl ⟨a + 5, 105, 3, upd (upd (upd (f) 0 V0) 1 V1) 2 V3, by omega, by omega, ?_, fun mm h1 h2 => ?_⟩
          · rw [hro, run, ob R0, if_neg n10, run, ob R1, if_neg n10, run, ob R2, if_neg n10, run, ob R3, if_neg n10, run]
          · have hv1 : Sg mm.2.2.2.2.2.2.1 n a = 105 := by rw [h1]; exact hv
            have H0 := X0 mm h1 h2
            have H1 := X1 mm h1 h2
            obtain ⟨W2, H2⟩ := X2 mm h1 h2
            have H3 := X3 mm h1 h2
            refine ⟨?_, fun hh B t hB hRT hUI => ?_⟩
            · rw [ord_e h2 hn (by omega) hv1 (by decide) 0]
              unfold ordT
              rw [if_neg (by decide), if_neg (by decide), if_neg (by decide), b_eta, ob H0, if_neg (by decide), ob rfl, if_neg (by decide), ob rfl, if_neg (by decide), if_neg (by decide), if_pos rfl, b_eta, ob H1, if_pos rfl, ob H2, b_eta, ob H3, if_pos rfl]
            · have Y0 := number_e (pp := pp) (l := 105) (a := a + 5) (m := 3) (f := upd (upd (upd (f) 0 V0) 1 V1) 2 V3) (by decide) (j := 0) (by decide)
              have Y1 := number_e (pp := pp) (l := 105) (a := a + 5) (m := 3) (f := upd (upd (upd (f) 0 V0) 1 V1) 2 V3) (by decide) (j := 1) (by decide)
              have Y2 := number_e (pp := pp) (l := 105) (a := a + 5) (m := 3) (f := upd (upd (upd (f) 0 V0) 1 V1) 2 V3) (by decide) (j := 2) (by decide)
              have HC : f_X3_carryOutOrder t hh (QS pp 105 (a + 5) 3 (upd (upd (upd (f) 0 V0) 1 V1) 2 V3)) = f_X2_addQuarrel t V0 V1 V3 := co_i t hh Y0 Y1 Y2 rfl
              have HX : ∀ r u1, f_X4_offends mm.1 V0 V1 V3 = some (r, u1) → f_X4_order (PM mm a 0) 1 = some (r, M0 (PM mm (a + 5) 0) u1) := fun r u1 o2 => by
                rw [ord_e h2 hn (by omega) hv1 (by decide) 1]
                unfold ordT
                rw [if_neg (by decide), if_neg (by decide), if_neg (by decide), b_eta, ob H0, if_neg (by decide), ob rfl, if_neg (by decide), ob rfl, if_neg (by decide), if_neg (by decide), if_pos rfl, b_eta, ob H1, if_pos rfl, ob H2, b_eta, ob H3, if_neg n10, if_neg (by decide), if_neg (by decide), if_neg (by decide), if_pos rfl]
                show ((f_X4_offends mm.1 V0 V1 V3).bind fun x45 => some (x45.1, M0 (PM mm (a + 5) 0) x45.2)) = _
                rw [ob o2]
              obtain ⟨hS, np, nq, hN⟩ := hUI
              obtain ⟨r, t1, u1, o1, o2, o3, o4⟩ := op_insult hRT hB hS hN V0 V1 V3
              exact ⟨r, r, t1, u1, HC.trans o1, HX r u1 o2, o3, o4, Iff.rfl⟩
        · refine Or.inr ⟨a + 4, 105, 2, upd (upd (f) 0 V0) 1 V1, by omega, ?_, fun mm h1 h2 => ?_⟩
          · rw [hro, run, ob R0, if_neg n10, run, ob R1, if_neg n10, run, ob R2, if_neg n10, run, ob R3, if_pos rfl]
          · have hv1 : Sg mm.2.2.2.2.2.2.1 n a = 105 := by rw [h1]; exact hv
            have H0 := X0 mm h1 h2
            have H1 := X1 mm h1 h2
            obtain ⟨W2, H2⟩ := X2 mm h1 h2
            obtain ⟨W3, H3⟩ := X3 mm h1 h2
            rw [ord_e h2 hn (by omega) hv1 (by decide) 0]
            unfold ordT
            rw [if_neg (by decide), if_neg (by decide), if_neg (by decide), b_eta, ob H0, if_neg (by decide), ob rfl, if_neg (by decide), ob rfl, if_neg (by decide), if_neg (by decide), if_pos rfl, b_eta, ob H1, if_pos rfl, ob H2, b_eta, ob H3, if_pos rfl]
      · refine Or.inr ⟨a + 3, 105, 2, upd (upd (f) 0 V0) 1 V1, by omega, ?_, fun mm h1 h2 => ?_⟩
        · rw [hro, run, ob R0, if_neg n10, run, ob R1, if_neg n10, run, ob R2, if_pos rfl]
        · have hv1 : Sg mm.2.2.2.2.2.2.1 n a = 105 := by rw [h1]; exact hv
          have H0 := X0 mm h1 h2
          have H1 := X1 mm h1 h2
          obtain ⟨W2, H2⟩ := X2 mm h1 h2
          obtain ⟨W3, H3⟩ := digit_1 (mm := mm) (a := a + 3) h2 hn (by omega)
          rw [ord_e h2 hn (by omega) hv1 (by decide) 0]
          unfold ordT
          rw [if_neg (by decide), if_neg (by decide), if_neg (by decide), b_eta, ob H0, if_neg (by decide), ob rfl, if_neg (by decide), ob rfl, if_neg (by decide), if_neg (by decide), if_pos rfl, b_eta, ob H1, if_pos rfl, ob H2, b_eta, ob H3, if_pos rfl]
    · refine Or.inr ⟨a + 2, 105, 1, upd (f) 0 V0, by omega, ?_, fun mm h1 h2 => ?_⟩
      · rw [hro, run, ob R0, if_neg n10, run, ob R1, if_pos rfl]
      · have hv1 : Sg mm.2.2.2.2.2.2.1 n a = 105 := by rw [h1]; exact hv
        have H0 := X0 mm h1 h2
        obtain ⟨W1, H1⟩ := X1 mm h1 h2
        obtain ⟨W2, H2⟩ := sign_1 (mm := mm) (a := a + 2) h2 hn (by omega) 47 47
        obtain ⟨W3, H3⟩ := digit_1 (mm := mm) (a := a + 2) h2 hn (by omega)
        rw [ord_e h2 hn (by omega) hv1 (by decide) 0]
        unfold ordT
        rw [if_neg (by decide), if_neg (by decide), if_neg (by decide), b_eta, ob H0, if_neg (by decide), ob rfl, if_neg (by decide), ob rfl, if_neg (by decide), if_neg (by decide), if_pos rfl, b_eta, ob H1, if_pos rfl, ob H2, b_eta, ob H3, if_pos rfl]
  · refine Or.inr ⟨a + 1, 105, 0, f, by omega, ?_, fun mm h1 h2 => ?_⟩
    · rw [hro, run, ob R0, if_pos rfl]
    · have hv1 : Sg mm.2.2.2.2.2.2.1 n a = 105 := by rw [h1]; exact hv
      obtain ⟨W0, H0⟩ := X0 mm h1 h2
      obtain ⟨W1, H1⟩ := digit_1 (mm := mm) (a := a + 1) h2 hn (by omega)
      obtain ⟨W2, H2⟩ := sign_1 (mm := mm) (a := a + 1) h2 hn (by omega) 47 47
      obtain ⟨W3, H3⟩ := digit_1 (mm := mm) (a := a + 1) h2 hn (by omega)
      rw [ord_e h2 hn (by omega) hv1 (by decide) 0]
      unfold ordT
      rw [if_neg (by decide), if_neg (by decide), if_neg (by decide), b_eta, ob H0, if_neg (by decide), ob rfl, if_neg (by decide), ob rfl, if_neg (by decide), if_neg (by decide), if_pos rfl, b_eta, ob H1, if_pos rfl, ob H2, b_eta, ob H3, if_pos rfl]
theorem order_both (hl : pp.2.1 = nI n) (hn : n ≤ 80) (hg : ∀ i, i < n → pp.1 i = g i) (ha : a ≤ n) : OB pp g n a (QW pp l a w f) := by
  have es : Sg pp.1 n a = Sg g n a := by
    unfold Sg
    by_cases c : a < n
    · rw [if_pos c, if_pos c]; exact hg a c
    · rw [if_neg c, if_neg c]
  by_cases hb : Sg g n a = 112 ∨ Sg g n a = 115 ∨ Sg g n a = 105 ∨ Sg g n a = 119 ∨ Sg g n a = 102 ∨ Sg g n a = 111 ∨ Sg g n a = 116 ∨ Sg g n a = 97
  · have hlt : a < n := Classical.byContradiction (fun d => by
      unfold Sg at hb
      rw [if_neg d] at hb
      exact absurd hb (by decide))
    rcases hb with hv | hv | hv | hv | hv | hv | hv | hv
    · exact ord_p hl hn hg hlt es hv
    · exact ord_s hl hn hg hlt es hv
    · exact ord_i hl hn hg hlt es hv
    · exact ord_w hl hn hg hlt es hv
    · exact ord_f hl hn hg hlt es hv
    · exact ord_o hl hn hg hlt es hv
    · exact ord_t hl hn hg hlt es hv
    · exact ord_a hl hn hg hlt es hv
  · refine Or.inr ⟨a, Sg pp.1 n a, 0, f, ha, ?_, fun mm h1 h2 => ?_⟩
    · exact readOrder_6 hl hn (by omega) (formOf_6 (by rw [es]; exact hb))
    · subst h1
      exact ord_bad h2 hn (by omega) rfl hb
end PV
/-! the fault of the pad: both alike -/
def RD (pp : PP) (g : Nat → Int32) (n a a' : Nat) : Prop := ∀ l w f, ∃ l1 m1 f1, f_X1_readOrder (QW pp l a w f) = some (1, QS pp l1 a' m1 f1) ∧ ∀ mm : MM, mm.2.2.2.2.2.2.1 = g → mm.2.2.2.2.2.2.2.1 = nI n → ∀ hh, EX hh (QS pp l1 a' m1 f1) mm a a'
/-- the text from a place on has no fault -/
def TX (pp : PP) (g : Nat → Int32) (n : Nat) : Nat → Nat → Prop
  | 0, _ => False
  | k + 1, a => ∃ a', a + 2 ≤ a' ∧ a' ≤ n ∧ RD pp g n a a' ∧ (a' = n ∨ (a' < n ∧ Sg g n a' = 59 ∧ TX pp g n k (a' + 1)))
section PW
variable {pp : PP} {n : Nat} {g : Nat → Int32} {mm : MM}
theorem RD_of (hl : pp.2.1 = nI n) (hn : n ≤ 80) (hg : ∀ i, i < n → pp.1 i = g i) (h1 : mm.2.2.2.2.2.2.1 = g) (h2 : mm.2.2.2.2.2.2.2.1 = nI n) {a a' : Nat} (ha : a ≤ n) (ha' : a' ≤ n) (ho : f_X4_order (PM mm a 0) 0 = some (0, PM mm a' 0)) : RD pp g n a a' := by
  intro l w f
  rcases order_both (l := l) (w := w) (f := f) hl hn hg ha with ⟨b, l1, m1, f1, b1, b2, b3, b4⟩ | ⟨b, l1, m1, f1, b2, b3, b4⟩
  · have e := Option.some.inj (ho.symm.trans (b4 mm h1 h2).1)
    have e2 : nI a' = nI b := congrArg (fun z : Int32 × MM => z.2.2.2.2.2.2.2.2.2.1) e
    have e3 := (nI_eq (by omega) (by omega)).1 e2
    subst e3
    exact ⟨l1, m1, f1, b3, fun mm' h3 h4 => (b4 mm' h3 h4).2⟩
  · exfalso
    have e := Option.some.inj (ho.symm.trans (b4 mm h1 h2))
    have e2 : (0 : Int32) = 1 := congrArg (fun z : Int32 × MM => z.2.2.2.2.2.2.2.2.2.2) e
    exact absurd e2 (by decide)
theorem fault_loop (hl : pp.2.1 = nI n) (hn : n ≤ 80) (hg : ∀ i, i < n → pp.1 i = g i) (h1 : mm.2.2.2.2.2.2.1 = g) (h2 : mm.2.2.2.2.2.2.2.1 = nI n) : ∀ (d a j n1 n2 : Nat) (l w : Int32) (f : Nat → Int32) (y : Int32), n ≤ a + d → a ≤ n → 3 * j ≤ a → d < n1 → d + 1 < n2 →
    ∃ r q y' a' w', f_X1_firstFault_L7 n1 (QW pp l a w f) (nI j) = some (r, q) ∧ q.1 = pp.1 ∧ q.2.1 = pp.2.1 ∧ f_X4_go_L14 0 n2 (PM mm a 0) y 1 = some (y', PM mm a' w') ∧ a' ≤ n ∧ ((w' = 0 ∧ r = -6 ∧ TX pp g n (d + 1) a) ∨ (w' = 1 ∧ r = nI a')) := by
  intro d
  induction d using Nat.strongRecOn with
  | _ d ih =>
    intro a j n1 n2 l w f y e1 e2 e3 e4 e5
    obtain ⟨n1, rfl⟩ : ∃ n', n1 = n' + 1 := ⟨n1 - 1, by omega⟩
    obtain ⟨n2, rfl⟩ : ∃ n', n2 = n' + 1 := ⟨n2 - 1, by omega⟩
    have h80 : ¬ (80 : Int32) ≤ nI j := by rw [show (80 : Int32) = nI 80 from rfl]; exact nI_ge (by omega) (by decide)
    rw [f_X1_firstFault_L7, f_X4_go_L14, if_neg h80, if_neg n10]
    rcases order_both (l := l) (w := w) (f := f) hl hn hg e2 with ⟨b, l1, m1, f1, b1, b2, b3, b4⟩ | ⟨b, l1, m1, f1, b2, b3, b4⟩
    · have ho := (b4 mm h1 h2).1
      have hrd := RD_of hl hn hg h1 h2 e2 b2 ho
      rw [ob b3, ob ho]
      show ∃ r q y' a' w', (if (1 : Int32) = 0 then _ else (if nI b < pp.2.1 then ((f_X1_signAt (QS pp l1 b m1 f1) (nI b)).bind fun x6 => (if x6 = (59 : Int32) then f_X1_firstFault_L7 n1 (P2 (QS pp l1 b m1 f1) (nI b + (1 : Int32))) (nI j + (1 : Int32)) else some (nI b, QS pp l1 b m1 f1))) else some ((-6 : Int32), QS pp l1 b m1 f1))) = some (r, q) ∧ q.1 = pp.1 ∧ q.2.1 = pp.2.1 ∧
        (if (0 : Int32) ≤ 0 then (((if (0 : Int32) = 0 then (if mm.2.2.2.2.2.2.2.1 ≤ nI b then some (0 : Int32) else some (1 : Int32)) else some (0 : Int32)) : Option Int32).bind fun v5 => (if v5 = 0 then f_X4_go_L14 0 n2 (PM mm b 0) (y + (1 : Int32)) v5 else ((f_X4_sign (PM mm b 0) (59 : Int32) (59 : Int32)).bind fun x7 => (if x7.2.2.2.2.2.2.2.2.2.2 = 0 then f_X4_go_L14 0 n2 x7.2 (y + (1 : Int32)) (1 : Int32) else f_X4_go_L14 0 n2 x7.2 (y + (1 : Int32)) (0 : Int32))))) else _) = some (y', PM mm a' w') ∧ a' ≤ n ∧ ((w' = 0 ∧ r = -6 ∧ TX pp g n (d + 1) a) ∨ (w' = 1 ∧ r = nI a'))
      rw [if_neg n10, if_pos (show (0 : Int32) ≤ 0 by decide), if_pos rfl, hl, h2]
      obtain ⟨n2, rfl⟩ : ∃ n', n2 = n' + 1 := ⟨n2 - 1, by omega⟩
      by_cases c : b < n
      · rw [if_pos (nI_lt c (by omega)), if_neg (nI_ge c (by omega)), ob rfl, if_neg n10, ob (signAt_e (q := QS pp l1 b m1 f1) hl hn (by omega))]
        have es : Sg pp.1 n b = Sg g n b := by
          unfold Sg
          rw [if_pos c, if_pos c]; exact hg b c
        show ∃ r q y' a' w', (if Sg pp.1 n b = (59 : Int32) then f_X1_firstFault_L7 n1 (P2 (QS pp l1 b m1 f1) (nI b + (1 : Int32))) (nI j + (1 : Int32)) else some (nI b, QS pp l1 b m1 f1)) = some (r, q) ∧ _
        rw [es, sign_0 h2 hn (by omega) (by decide), h1]
        by_cases cs : Sg g n b = 59
        · have cs2 : (59 : Int32) ≤ Sg g n b ∧ Sg g n b ≤ 59 := by rw [cs]; decide
          rw [if_pos cs, if_pos cs2, ob rfl]
          show ∃ r q y' a' w', f_X1_firstFault_L7 n1 (QW pp l1 (b + 1) (nI m1) f1) (nI (j + 1)) = some (r, q) ∧ q.1 = pp.1 ∧ q.2.1 = nI n ∧ (if (0 : Int32) = 0 then f_X4_go_L14 0 (n2 + 1) (PM mm (b + 1) 0) (y + (1 : Int32)) (1 : Int32) else _) = some (y', PM mm a' w') ∧ _
          rw [if_pos rfl]
          obtain ⟨r, q, y', a', w', q1, q2, q3, q4, q5, q6⟩ := ih (d - 1) (by omega) (b + 1) (j + 1) n1 (n2 + 1) l1 (nI m1) f1 (y + 1) (by omega) (by omega) (by omega) (by omega) (by omega)
          refine ⟨r, q, y', a', w', q1, q2, q3.trans hl, q4, q5, ?_⟩
          rcases q6 with ⟨z1, z2, z3⟩ | z
          · refine Or.inl ⟨z1, z2, b, b1, b2, hrd, Or.inr ⟨c, cs, ?_⟩⟩
            rw [show d - 1 + 1 = d from by omega] at z3
            exact z3
          · exact Or.inr z
        · have cs2 : ¬ ((59 : Int32) ≤ Sg g n b ∧ Sg g n b ≤ 59) := fun d => cs (by
            have d1 := ti_le.1 d.1
            have d2 := ti_le.1 d.2
            rw [ti_eq]; omega)
          rw [if_neg cs, if_neg cs2, ob rfl]
          show ∃ r q y' a' w', some (nI b, QS pp l1 b m1 f1) = some (r, q) ∧ q.1 = pp.1 ∧ q.2.1 = nI n ∧ (if (1 : Int32) = 0 then _ else f_X4_go_L14 0 (n2 + 1) (PM mm b 1) (y + (1 : Int32)) (0 : Int32)) = some (y', PM mm a' w') ∧ _
          rw [if_neg n10, f_X4_go_L14, if_pos rfl]
          exact ⟨_, _, _, b, 1, rfl, rfl, hl, rfl, b2, Or.inr ⟨rfl, rfl⟩⟩
      · obtain rfl : b = n := by omega
        rw [if_neg (nI_nlt (Nat.le_refl b) (by omega)), if_pos (nI_le (Nat.le_refl b) (by omega)), ob rfl, if_pos rfl, f_X4_go_L14, if_pos rfl]
        exact ⟨_, _, _, b, 0, rfl, rfl, hl, rfl, Nat.le_refl b, Or.inl ⟨rfl, rfl, b, b1, Nat.le_refl b, hrd, Or.inl rfl⟩⟩
    · have ho := b4 mm h1 h2
      rw [ob b3, ob ho]
      obtain ⟨n2, rfl⟩ : ∃ n', n2 = n' + 1 := ⟨n2 - 1, by omega⟩
      show ∃ r q y' a' w', (if (0 : Int32) = 0 then some (nI b, QS pp l1 b m1 f1) else _) = some (r, q) ∧ q.1 = pp.1 ∧ q.2.1 = pp.2.1 ∧
        (if (0 : Int32) ≤ 0 then (((if (1 : Int32) = 0 then _ else some (0 : Int32)) : Option Int32).bind fun v5 => (if v5 = 0 then f_X4_go_L14 0 (n2 + 1) (PM mm b 1) (y + (1 : Int32)) v5 else _)) else _) = some (y', PM mm a' w') ∧ _
      rw [if_pos rfl, if_pos (show (0 : Int32) ≤ 0 by decide), if_neg n10, ob rfl, if_pos rfl, f_X4_go_L14, if_pos rfl]
      exact ⟨_, _, _, b, 1, rfl, rfl, rfl, rfl, b2, Or.inr ⟨rfl, rfl⟩⟩
end PW
/-! fault and carryOut -/
theorem JJ_PM {k : Nat} {t : TT} {hh : HH} {pp q : PP} {s0 s1 : Option TT} {mm : MM} (h : JJ k t hh pp s0 s1 mm) (q1 : q.1 = pp.1) (q2 : q.2.1 = pp.2.1) (a : Nat) (w : Int32) : JJ k t hh q s0 s1 (PM mm a w) := by
  obtain ⟨h0, h1, h2, h3, ⟨n, p1, p2, p3, p4, p5⟩, h5, h6⟩ := h
  refine ⟨h0, h1, h2, h3, ⟨n, p1, q2.trans p2, p3, fun i hi => ?_, fun i hi => ?_⟩, h5, h6⟩
  · rw [q1]; exact p4 i hi
  · rw [q1]; exact p5 i hi
theorem fault_both {k : Nat} {t : TT} {hh : HH} {pp : PP} {s0 s1 : Option TT} {mm : MM} (h : JJ k t hh pp s0 s1 mm) :
    ∃ r q y' a' w' n, f_X1_firstFault pp = some (r, q) ∧ q.1 = pp.1 ∧ q.2.1 = pp.2.1 ∧ f_X4_go mm 0 = some (y', PM mm a' w') ∧ n ≤ 80 ∧ pp.2.1 = nI n ∧ mm.2.2.2.2.2.2.2.1 = nI n ∧ (∀ i, i < n → pp.1 i = mm.2.2.2.2.2.2.1 i) ∧ a' ≤ n ∧ ((w' = 0 ∧ r = -6 ∧ TX pp mm.2.2.2.2.2.2.1 n (n + 1) 0) ∨ (w' = 1 ∧ r = nI a')) := by
  obtain ⟨_, _, _, _, ⟨n, p1, p2, p3, p4, p5⟩, _, _⟩ := h
  obtain ⟨r, q, y', a', w', z1, z2, z3, z4, z5, z6⟩ := fault_loop (mm := mm) p2 p1 p4 rfl p3 n 0 0 2000 2000 pp.2.2.2.1 pp.2.2.2.2.2 pp.2.2.2.2.1 0 (by omega) (by omega) (by omega) (by omega) (by omega)
  exact ⟨r, q, y', a', w', n, z1, z2, z3, z4, p1, p2, p3, p4, z5, z6⟩
theorem J_fault : St_fault JJ := by
  intro k t hh pp s0 s1 mm hk h
  obtain ⟨r, q, y', a', w', n, z1, z2, z3, z4, z5, z6, z7, z8, z9, z10⟩ := fault_both h
  unfold f_X3_fault f_X4_fault
  rw [ob z1, ob z4]
  rcases z10 with ⟨rfl, rfl, _⟩ | ⟨rfl, rfl⟩
  · exact ⟨(-6, q), (-6, PM mm a' 0), rfl, if_pos rfl, rfl, JJ_none hk (JJ_PM h z2 z3 a' 0)⟩
  · exact ⟨(nI a', q), (nI a', PM mm a' 1), rfl, if_neg n10, rfl, JJ_none hk (JJ_PM h z2 z3 a' 1)⟩
theorem carry_loop {pp : PP} {n : Nat} {g : Nat → Int32} (hl : pp.2.1 = nI n) (hn : n ≤ 80) (hg : ∀ i, i < n → pp.1 i = g i) (hh : HH) : ∀ (k a j n1 n2 B : Nat) (l w : Int32) (f : Nat → Int32) (t : TT) (mm : MM), TX pp g n k a → a ≤ n → 3 * j ≤ a → k + 1 < n1 → k + 1 < n2 → mm.2.2.2.2.2.2.1 = g → mm.2.2.2.2.2.2.2.1 = nI n → B + k < 1000000 → RT B t mm.1 → UI mm.1 →
    ∃ y a' t' u' q, a' ≤ n ∧ f_X3_carryOut_L38 n1 t hh (QW pp l a w f) (nI j) (nI j) = ((f_X0_keepUnlessError hh (nI y)).bind fun x7 => some (x7.1, t', x7.2, P1 q 0)) ∧ q.1 = pp.1 ∧ f_X4_go_L14 1 n2 (PM mm a 0) (nI j) 1 = some (nI y, M0 (PM mm a' 0) u') ∧ RT (B + k) t' u' ∧ UI u' := by
  intro k
  induction k with
  | zero => intro a j n1 n2 B l w f t mm hT; exact absurd hT id
  | succ k ih =>
    intro a j n1 n2 B l w f t mm hT e2 e3 e4 e5 h1 h2 hB hR hU
    obtain ⟨n1, rfl⟩ : ∃ n', n1 = n' + 1 := ⟨n1 - 1, by omega⟩
    obtain ⟨n2, rfl⟩ : ∃ n', n2 = n' + 1 := ⟨n2 - 1, by omega⟩
    obtain ⟨b, b1, b2, b3, b4⟩ := hT
    obtain ⟨l1, m1, f1, r1, r2⟩ := b3 l w f
    obtain ⟨r, r', t1, u1, x1, x2, x3, x4, x5⟩ := r2 mm h1 h2 hh B t (by omega) hR hU
    have h80 : ¬ (80 : Int32) ≤ nI j := by rw [show (80 : Int32) = nI 80 from rfl]; exact nI_ge (by omega) (by decide)
    rw [f_X3_carryOut_L38, f_X4_go_L14, if_neg h80, if_neg n10, ob r1, ob x2, if_neg n10, ob x1, ob (isError_e r)]
    by_cases hE : IsE r
    · have hE' := x5.1 hE
      rw [if_pos hE, if_neg n10, if_neg hE'.1, if_neg hE'.2]
      exact ⟨j, b, t1, u1, QS pp l1 b m1 f1, b2, rfl, rfl, rfl, x3.mono (by omega), x4⟩
    · have hE' : ¬ IsE r' := fun e => hE (x5.2 e)
      rw [if_neg hE, if_pos rfl]
      have hst : f_X1_stepOverSemicolon (QS pp l1 b m1 f1) = some (if Sg pp.1 n b = 59 then QS pp l1 (b + 1) m1 f1 else QS pp l1 b m1 f1) := by
        unfold f_X1_stepOverSemicolon
        show ((f_X1_signAt (QS pp l1 b m1 f1) (nI b)).bind fun x1 => _) = _
        rw [ob (signAt_e (q := QS pp l1 b m1 f1) hl hn (by omega))]
        by_cases cs : Sg pp.1 n b = 59
        · rw [if_pos cs, if_pos cs]
          show some (P2 _ (nI b + 1)) = _
          rw [nI_1]
          rfl
        · rw [if_neg cs, if_neg cs]
      rw [ob hst]
      have hX : f_X4_go_L14 1 (n2 + 1) (PM mm a 0) (nI j) 1 = (((if mm.2.2.2.2.2.2.2.1 ≤ nI b then some (0 : Int32) else some (1 : Int32)) : Option Int32).bind fun v5 => (if v5 = 0 then f_X4_go_L14 1 n2 (PM (M0 mm u1) b 0) (nI j + (1 : Int32)) v5 else ((f_X4_sign (PM (M0 mm u1) b 0) (59 : Int32) (59 : Int32)).bind fun x7 => (if x7.2.2.2.2.2.2.2.2.2.2 = 0 then f_X4_go_L14 1 n2 x7.2 (nI j + (1 : Int32)) (1 : Int32) else f_X4_go_L14 1 n2 x7.2 (nI j + (1 : Int32)) (0 : Int32))))) := by
        rw [f_X4_go_L14, if_neg n10, ob x2]
        by_cases c0 : 0 ≤ r'
        · rw [if_pos c0]; rfl
        · rw [if_neg c0, if_pos (Classical.byContradiction (fun e => hE' ⟨c0, e⟩))]; rfl
      have hX' := hX
      rw [f_X4_go_L14, if_neg n10, ob x2] at hX'
      rw [hX', h2, nI_1]
      rcases b4 with rfl | ⟨c, cs, hT2⟩
      · rw [if_pos (nI_le (Nat.le_refl b) (by omega)), ob rfl, if_pos rfl]
        obtain ⟨n1, rfl⟩ : ∃ n', n1 = n' + 1 := ⟨n1 - 1, by omega⟩
        obtain ⟨n2, rfl⟩ : ∃ n', n2 = n' + 1 := ⟨n2 - 1, by omega⟩
        have es : Sg pp.1 b b = 0 := if_neg (Nat.lt_irrefl b)
        rw [es, if_neg (by decide), f_X4_go_L14, if_pos rfl, f_X3_carryOut_L38, if_neg (by rw [show (80 : Int32) = nI 80 from rfl]; exact nI_ge (by omega) (by decide))]
        have hro : f_X1_readOrder (QS pp l1 b m1 f1) = some (0, QS pp (Sg pp.1 b b) b 0 f1) := readOrder_6 (w := nI m1) hl hn (by omega) (by rw [es]; decide)
        rw [ob hro, if_pos rfl]
        exact ⟨j + 1, b, t1, u1, QS pp (Sg pp.1 b b) b 0 f1, Nat.le_refl b, rfl, rfl, rfl, x3.mono (by omega), x4⟩
      · have es : Sg pp.1 n b = Sg g n b := by
          unfold Sg
          rw [if_pos c, if_pos c]; exact hg b c
        have cs2 : (59 : Int32) ≤ Sg g n b ∧ Sg g n b ≤ 59 := by rw [cs]; decide
        have hsg := sign_0 (mm := M0 mm u1) (a := b) h2 hn (by omega) (lo := 59) (hi := 59) (by decide)
        have hgg : (M0 mm u1).2.2.2.2.2.2.1 = g := h1
        rw [hgg, if_pos cs2] at hsg
        rw [es, if_pos cs, if_neg (nI_ge c (by omega)), ob rfl, if_neg n10, ob hsg, if_pos (show ((Sg g n b, PM (M0 mm u1) (b + 1) 0) : Int32 × MM).2.2.2.2.2.2.2.2.2.2 = 0 from rfl)]
        obtain ⟨y, a', t', u', q, q1, q2, q3, q4, q5, q6⟩ := ih (b + 1) (j + 1) n1 n2 (B + 1) l1 (nI m1) f1 t1 (M0 mm u1) hT2 (by omega) (by omega) (by omega) (by omega) h1 h2 (by omega) x3 x4
        exact ⟨y, a', t', u', q, q1, q2, q3, q4, by rw [show B + (k + 1) = B + 1 + k from by omega]; exact q5, q6⟩
/-! carryOut, the start, all steps -/
theorem J_carryOut : St_carryOut JJ := by
  intro k t hh pp s0 s1 mm hk h
  obtain ⟨r, q, y', a', w', n, z1, z2, z3, z4, z5, z6, z7, z8, z9, z10⟩ := fault_both h
  unfold f_X3_carryOut f_X4_carryOut
  rw [ob z1, ob z4]
  rcases z10 with ⟨rfl, rfl, hT⟩ | ⟨rfl, rfl⟩
  · obtain ⟨_, h1, h2, ⟨o, sz, h3⟩, h4, h5, h6⟩ := JJ_PM h z2 z3 a' 0
    obtain ⟨hh', mm', n1, n2, n3, n4, n5, n6⟩ := noted h1 h2 h3
    have n5' : mm'.2.2.2.2 = (PM mm a' 0).2.2.2.2 := congrArg (fun z => z.2.2) n5
    have hpad : mm'.2.2.2.2.2.2.1 = mm.2.2.2.2.2.2.1 := congrArg (fun z => z.2.2.1) n5'
    have hlen : mm'.2.2.2.2.2.2.2.1 = nI n := (congrArg (fun z => z.2.2.2.1) n5').trans z7
    obtain ⟨y, b, t', u', q', c1, c2, c3, c4, c5, c6⟩ := carry_loop z6 z5 z8 hh' (n + 1) 0 0 2000 2000 (100 * k) q.2.2.2.1 q.2.2.2.2.2 q.2.2.2.2.1 t mm' hT (by omega) (by omega) (by omega) (by omega) hpad hlen (by omega) (by rw [n4]; exact h1) (by rw [n4]; exact h2)
    have c2' : f_X3_carryOut_L38 2000 t hh' (P2 q 0) 0 0 = ((f_X0_keepUnlessError hh' (nI y)).bind fun x7 => some (x7.1, t', x7.2, P1 q' 0)) := by
      have e : P2 q 0 = QW pp q.2.2.2.1 0 q.2.2.2.2.2 q.2.2.2.2.1 := by
        show (q.1, q.2.1, (0 : Int32), q.2.2.2) = _
        rw [z2, z3]
        rfl
      rw [e]
      exact c2
    have c4' : f_X4_go mm' 1 = some (nI y, M0 (PM mm' b 0) u') := c4
    obtain ⟨hh2, mm2, o', sz', q1, q2, q3, q4, q5⟩ := end_e (mm := M7 (M0 (PM mm' b 0) u') 0) (show HK (100 * k) hh' (M7 (M0 (PM mm' b 0) u') 0) o sz from n3) n6 (nI y)
    refine ⟨(nI y, t', hh2, P1 q' 0), (nI y, mm2), ?_, ?_, rfl, hk, ?_, ?_, ⟨o', sz', q3.mono (by omega)⟩, ?_, ?_, ?_⟩
    · rw [if_pos rfl, ob n1, c2', ob q1]
    · show (if (0 : Int32) = 0 then ((f_X4_putAside (PM mm a' 0)).bind fun x4 => _) else _) = _
      rw [if_pos rfl, ob n2, ob c4']
      show ((f_X4_end (M7 (M0 (PM mm' b 0) u') 0) (nI y)).bind fun x8 => _) = _
      rw [ob q2]
    · show RT _ t' mm2.1
      rw [q4]
      exact c5.mono (by omega)
    · show UI mm2.1
      rw [q4]
      exact c6
    · refine ⟨0, by decide, nI_0.symm, ?_, fun i hi => absurd hi (Nat.not_lt_zero i), fun i hi => absurd hi (Nat.not_lt_zero i)⟩
      rw [q5]
      exact nI_0.symm
    · have g5 : SR (100 * k) s0 (M7 (M0 (PM mm' b 0) u') 0) 0 := (show SR (100 * k) s0 mm' 0 from h5.cg n5')
      exact (g5.cg q5).mono (by omega)
    · have g6 : SR (100 * k) s1 (M7 (M0 (PM mm' b 0) u') 0) 1 := (show SR (100 * k) s1 mm' 1 from h6.cg n5')
      exact (g6.cg q5).mono (by omega)
  · have hne : ¬ nI a' = -6 := fun e => by
      have e2 := ti_eq.1 e
      rw [nI_i (by omega), ti_m6] at e2
      omega
    exact ⟨(-3, t, hh, q), (-3, PM mm a' 1), by rw [if_neg hne], if_neg n10, rfl, JJ_none hk (JJ_PM h z2 z3 a' 1)⟩
theorem J_init : St_init JJ := by
  have R0 : RT 0 ((0, 31, 0, 0, 0, fun _ => 0) : TT) (upd (fun _ => 0) 46 31) := by
    refine ⟨?_, ?_, ?_, ?_, ⟨fun j hj => ?_, fun w k hw hk => ?_, fun w k hw hk => ?_⟩, 0, Nat.le_refl 0, nI_0.symm, ?_, fun r w hr hw => by omega⟩
    · rw [pk_un (by decide)]
    · rw [pk_us]
    · rw [pk_un (by decide)]
    · rw [pk_un (by decide)]
    · rw [pk_un (by omega)]
    · rw [pk_un (by omega)]
    · rw [pk_un (by omega)]
    · rw [pk_un (by decide)]; exact nI_0.symm
  obtain ⟨t1, w1, R1⟩ := x2_ws R0 (j := 0) (by decide) 12
  obtain ⟨t2, w2, R2⟩ := x2_ws R1 (j := 1) (by decide) 24
  obtain ⟨t3, w3, R3⟩ := x2_ws R2 (j := 2) (by decide) 72
  obtain ⟨t4, w4, R4⟩ := x2_ws R3 (j := 3) (by decide) 100
  rw [upd_comm (a := 46) (b := 0) (by decide), upd_comm (a := 46) (b := 1) (by decide), upd_comm (a := 46) (b := 2) (by decide), upd_comm (a := 46) (b := 3) (by decide)] at R4
  refine ⟨t4, M0 mm0 (upd (upd (upd (upd (upd (fun _ => 0) 0 12) 1 24) 2 72) 3 100) 46 31), ?_, ?_, by decide, R4, ⟨?_, 0, 0, by decide, by decide, ?_, ?_, fun k hk => absurd hk (Nat.not_lt_zero k), fun k hk => absurd hk (Nat.not_lt_zero k)⟩, ⟨0, 0, by decide, by decide, nI_0.symm, nI_0.symm, nI_0.symm, fun j hj => absurd hj (Nat.not_lt_zero j)⟩, ⟨0, by decide, nI_0.symm, nI_0.symm, fun i hi => absurd hi (Nat.not_lt_zero i), fun i hi => absurd hi (Nat.not_lt_zero i)⟩, rfl, rfl⟩
  · unfold f_X2_init
    have e0 : f_X2_write ((0, 31, 0, 0, 0, fun _ => 0) : TT) 0 0 12 = some t1 := w1
    have e1 : f_X2_write t1 0 1 24 = some t2 := w2
    have e2 : f_X2_write t2 0 2 72 = some t3 := w3
    have e3 : f_X2_write t3 0 3 100 = some t4 := w4
    rw [ob e0, ob e1, ob e2, ob e3]
  · unfold f_X4_init
    rw [ob (x4_wr (n := 0) (a := 0) rfl (by decide) (by decide)), ob (x4_wr (n := 1) (a := 1) rfl (by decide) (by decide)), ob (x4_wr (n := 2) (a := 2) rfl (by decide) (by decide)), ob (x4_wr (n := 3) (a := 3) rfl (by decide) (by decide)), ob (x4_wr (n := 46) (a := 46) rfl (by decide) (by decide))]
  · show US (upd (upd (upd (upd (upd (fun _ => 0) 0 12) 1 24) 2 72) 3 100) 46 31)
    unfold US
    decide
  · show upd (upd (upd (upd (upd (fun _ => 0) 0 12) 1 24) 2 72) 3 100) 46 31 5 = nI 0
    decide
  · show upd (upd (upd (upd (upd (fun _ => 0) 0 12) 1 24) 2 72) 3 100) 46 31 47 = nI 0
    decide
theorem J_steps : Steps JJ := ⟨J_set, J_person, J_second, J_allow, J_insult, J_settle, J_fight, J_swear, J_pass, J_of, J_quarrel, J_record, J_pressing, J_insults, J_count, J_why, J_firstWay, J_opensIn, J_dueIn, J_ifInsulted, J_ifFought, J_put, J_wipe, J_fault, J_carryOut, J_undo, J_save, J_restore, J_none⟩

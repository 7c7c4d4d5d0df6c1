/-! reading the pad: pieces -/
abbrev PM (mm : MM) (a : Nat) (w : Int32) : MM := M9 (M8 mm (nI a)) w
def Sg (g : Nat → Int32) (n a : Nat) : Int32 := if a < n then g a else 0
abbrev Dg (x : Int32) : Prop := 48 ≤ x ∧ x ≤ 57
theorem sign_gen (t : MM) (lo hi : Int32) {v1 v2 v5 : Int32} (h1 : (if t.2.2.2.2.2.2.2.1 ≤ t.2.2.2.2.2.2.2.2.1 then some (0 : Int32) else ((rd t.2.2.2.2.2.2.1 80 t.2.2.2.2.2.2.2.2.1).bind fun x13 => some x13)) = some v1)
    (h2 : (if t.2.2.2.2.2.2.2.2.2 = 0 then (if t.2.2.2.2.2.2.2.1 ≤ t.2.2.2.2.2.2.2.2.1 then some (1 : Int32) else ((f_X4_in v1 lo hi).bind fun x9 => (if x9 = 0 then some (1 : Int32) else some (0 : Int32)))) else some (1 : Int32)) = some v2)
    (h3 : gb v2 = some v2) (h5 : (if v2 = 0 then some (1 : Int32) else some (0 : Int32)) = some v5) : f_X4_sign t lo hi = some (v1, M8 (M9 t v2) (t.2.2.2.2.2.2.2.2.1 + v5)) := by
  unfold f_X4_sign
  rw [ob h1, ob h2, ob h3]
  show ((if v2 = 0 then some (1 : Int32) else some (0 : Int32)).bind fun v5 => _) = _
  rw [ob h5]
  rfl
section PS
variable {mm : MM} {n a : Nat}
theorem v1_e (hl : mm.2.2.2.2.2.2.2.1 = nI n) (hn : n ≤ 80) (ha : a ≤ 80) : (if mm.2.2.2.2.2.2.2.1 ≤ nI a then some (0 : Int32) else ((rd mm.2.2.2.2.2.2.1 80 (nI a)).bind fun x13 => some x13)) = some (Sg mm.2.2.2.2.2.2.1 n a) := by
  unfold Sg
  rw [hl]
  by_cases c : a < n
  · rw [if_neg (nI_ge c (by omega)), if_pos c, ob (x4_rd rfl (by omega) (by decide))]
  · rw [if_pos (nI_le (by omega) (by omega)), if_neg c]
theorem sign_0 (hl : mm.2.2.2.2.2.2.2.1 = nI n) (hn : n ≤ 80) (ha : a ≤ 80) {lo hi : Int32} (hlo : (0 : Int32) < lo) : f_X4_sign (PM mm a 0) lo hi = if lo ≤ Sg mm.2.2.2.2.2.2.1 n a ∧ Sg mm.2.2.2.2.2.2.1 n a ≤ hi then some (Sg mm.2.2.2.2.2.2.1 n a, PM mm (a + 1) 0) else some (Sg mm.2.2.2.2.2.2.1 n a, PM mm a 1) := by
  have h1 := v1_e (a := a) hl hn ha
  by_cases c : lo ≤ Sg mm.2.2.2.2.2.2.1 n a ∧ Sg mm.2.2.2.2.2.2.1 n a ≤ hi
  · rw [if_pos c]
    have hlt : a < n := Classical.byContradiction (fun d => by
      unfold Sg at c
      rw [if_neg d] at c
      have c1 := ti_le.1 c.1
      have c2 := ti_lt.1 hlo
      omega)
    have h2 : (if (0 : Int32) = 0 then (if mm.2.2.2.2.2.2.2.1 ≤ nI a then some (1 : Int32) else ((f_X4_in (Sg mm.2.2.2.2.2.2.1 n a) lo hi).bind fun x9 => (if x9 = 0 then some (1 : Int32) else some (0 : Int32)))) else some (1 : Int32)) = some 0 := by
      rw [if_pos rfl, hl, if_neg (nI_ge hlt (by omega)), in_e, if_neg (fun d => by
        have c1 := ti_le.1 c.1
        have c2 := ti_le.1 c.2
        rcases d with d | d
        · have := ti_lt.1 d; omega
        · have := ti_lt.1 d; omega), ob rfl, if_neg n10]
    have h := sign_gen (PM mm a 0) lo hi (v5 := 1) h1 h2 gb0 (by rw [if_pos rfl])
    rw [h]
    show some (_, M8 (M9 (PM mm a 0) 0) (nI a + 1)) = _
    rw [nI_1]
    rfl
  · rw [if_neg c]
    have h2 : (if (0 : Int32) = 0 then (if mm.2.2.2.2.2.2.2.1 ≤ nI a then some (1 : Int32) else ((f_X4_in (Sg mm.2.2.2.2.2.2.1 n a) lo hi).bind fun x9 => (if x9 = 0 then some (1 : Int32) else some (0 : Int32)))) else some (1 : Int32)) = some 1 := by
      rw [if_pos rfl, hl]
      by_cases d : a < n
      · rw [if_neg (nI_ge d (by omega)), in_e, if_pos (Classical.byContradiction (fun e => c (by
          have e1 := mt ti_lt.2 (fun f => e (Or.inl f))
          have e2 := mt ti_lt.2 (fun f => e (Or.inr f))
          exact ⟨by rw [ti_le]; omega, by rw [ti_le]; omega⟩))), ob rfl, if_pos rfl]
      · rw [if_pos (nI_le (by omega) (by omega))]
    have h := sign_gen (PM mm a 0) lo hi (v5 := 0) h1 h2 gb1 (by rw [if_neg n10])
    rw [h]
    show some (_, M8 (M9 (PM mm a 0) 1) (nI a + 0)) = _
    rw [i_add0]
    rfl
theorem sign_1 (hl : mm.2.2.2.2.2.2.2.1 = nI n) (hn : n ≤ 80) (ha : a ≤ 80) (lo hi : Int32) : ∃ v, f_X4_sign (PM mm a 1) lo hi = some (v, PM mm a 1) := by
  have h := sign_gen (PM mm a 1) lo hi (v1 := Sg mm.2.2.2.2.2.2.1 n a) (v2 := 1) (v5 := 0) (v1_e (a := a) hl hn ha) (if_neg n10) gb1 (if_neg n10)
  refine ⟨Sg mm.2.2.2.2.2.2.1 n a, h.trans ?_⟩
  show some (_, M8 (M9 (PM mm a 1) 1) (nI a + 0)) = _
  rw [i_add0]
  rfl
theorem digit_0 (hl : mm.2.2.2.2.2.2.2.1 = nI n) (hn : n ≤ 80) (ha : a ≤ 80) : f_X4_digit (PM mm a 0) = if Dg (Sg mm.2.2.2.2.2.2.1 n a) then some (Sg mm.2.2.2.2.2.2.1 n a - 48, PM mm (a + 1) 0) else some (Sg mm.2.2.2.2.2.2.1 n a - 48, PM mm a 1) := by
  unfold f_X4_digit
  rw [sign_0 hl hn ha (by decide)]
  by_cases c : Dg (Sg mm.2.2.2.2.2.2.1 n a)
  · rw [if_pos c, if_pos c]; rfl
  · rw [if_neg c, if_neg c]; rfl
theorem digit_1 (hl : mm.2.2.2.2.2.2.2.1 = nI n) (hn : n ≤ 80) (ha : a ≤ 80) : ∃ v, f_X4_digit (PM mm a 1) = some (v, PM mm a 1) := by
  obtain ⟨v, h⟩ := sign_1 hl hn ha 48 57
  exact ⟨v - 48, by unfold f_X4_digit; rw [ob h]⟩
theorem Sg_lt {g : Nat → Int32} (h : Dg (Sg g n a)) : a < n := Classical.byContradiction (fun d => by
  unfold Dg Sg at h
  rw [if_neg d] at h
  exact absurd h (by decide))
theorem number_0 (hl : mm.2.2.2.2.2.2.2.1 = nI n) (hn : n ≤ 80) (ha : a ≤ 80) : f_X4_number (PM mm a 0) = if Dg (Sg mm.2.2.2.2.2.2.1 n a) then (if ¬ (Sg mm.2.2.2.2.2.2.1 n a - 48 ≤ 0) ∧ Dg (Sg mm.2.2.2.2.2.2.1 n (a + 1)) then some (10 * (Sg mm.2.2.2.2.2.2.1 n a - 48) + (Sg mm.2.2.2.2.2.2.1 n (a + 1) - 48), PM mm (a + 2) 0) else some (Sg mm.2.2.2.2.2.2.1 n a - 48, PM mm (a + 1) 0)) else some (Sg mm.2.2.2.2.2.2.1 n a - 48, PM mm a 1) := by
  unfold f_X4_number
  rw [digit_0 hl hn ha]
  by_cases c : Dg (Sg mm.2.2.2.2.2.2.1 n a)
  · rw [if_pos c, if_pos c, ob rfl]
    have hlt := Sg_lt c
    show (if Sg mm.2.2.2.2.2.2.1 n a - 48 ≤ 0 then some (Sg mm.2.2.2.2.2.2.1 n a - 48, PM mm (a + 1) 0) else (if (0 : Int32) = 0 then (if mm.2.2.2.2.2.2.2.1 ≤ nI (a + 1) then some (Sg mm.2.2.2.2.2.2.1 n a - 48, PM mm (a + 1) 0) else ((rd mm.2.2.2.2.2.2.1 80 (nI (a + 1))).bind fun x6 => ((f_X4_in x6 (48 : Int32) (57 : Int32)).bind fun x8 => (if x8 = 0 then some (Sg mm.2.2.2.2.2.2.1 n a - 48, PM mm (a + 1) 0) else ((f_X4_digit (PM mm (a + 1) 0)).bind fun x11 => some ((((10 : Int32) * (Sg mm.2.2.2.2.2.2.1 n a - 48)) + x11.1), x11.2)))))) else some (Sg mm.2.2.2.2.2.2.1 n a - 48, PM mm (a + 1) 0))) = _
    by_cases c1 : Sg mm.2.2.2.2.2.2.1 n a - 48 ≤ 0
    · rw [if_pos c1, if_neg (fun d => d.1 c1)]
    · rw [if_neg c1, if_pos rfl, hl]
      by_cases c2 : a + 1 < n
      · rw [if_neg (nI_ge c2 (by omega)), ob (x4_rd rfl (by omega) (by decide)), in_e, digit_0 hl hn (by omega)]
        have es : Sg mm.2.2.2.2.2.2.1 n (a + 1) = mm.2.2.2.2.2.2.1 (a + 1) := if_pos c2
        by_cases c3 : Dg (Sg mm.2.2.2.2.2.2.1 n (a + 1))
        · have c3' : ¬ (mm.2.2.2.2.2.2.1 (a + 1) < 48 ∨ 57 < mm.2.2.2.2.2.2.1 (a + 1)) := fun d => by
            rw [← es] at d
            have c4 := ti_le.1 c3.1
            have c5 := ti_le.1 c3.2
            rcases d with d | d
            · have := ti_lt.1 d; omega
            · have := ti_lt.1 d; omega
          rw [if_neg c3', ob rfl, if_neg n10, if_pos c3, ob rfl, if_pos ⟨c1, c3⟩]
        · have c3' : mm.2.2.2.2.2.2.1 (a + 1) < 48 ∨ 57 < mm.2.2.2.2.2.2.1 (a + 1) := Classical.byContradiction (fun e => c3 (by
            rw [← es] at e
            have e1 := mt ti_lt.2 (fun f => e (Or.inl f))
            have e2 := mt ti_lt.2 (fun f => e (Or.inr f))
            exact ⟨by rw [ti_le]; omega, by rw [ti_le]; omega⟩))
          rw [if_pos c3', ob rfl, if_pos rfl, if_neg (fun d => c3 d.2)]
      · rw [if_pos (nI_le (by omega) (by omega)), if_neg (fun d => c2 (Sg_lt d.2))]
  · rw [if_neg c, if_neg c, ob rfl]
    show (if Sg mm.2.2.2.2.2.2.1 n a - 48 ≤ 0 then some (Sg mm.2.2.2.2.2.2.1 n a - 48, PM mm a 1) else (if (1 : Int32) = 0 then _ else some (Sg mm.2.2.2.2.2.2.1 n a - 48, PM mm a 1))) = _
    by_cases c1 : Sg mm.2.2.2.2.2.2.1 n a - 48 ≤ 0
    · rw [if_pos c1]
    · rw [if_neg c1, if_neg n10]
/-- the reader's state -/
abbrev QS (pp : PP) (l : Int32) (a m : Nat) (f : Nat → Int32) : PP := (pp.1, pp.2.1, nI a, l, f, nI m)
variable {pp : PP} {l : Int32} {m : Nat} {f : Nat → Int32}
theorem signAt_e {q : PP} (hl : q.2.1 = nI n) (hn : n ≤ 80) (ha : a ≤ 80) : f_X1_signAt q (nI a) = some (Sg q.1 n a) := by
  unfold f_X1_signAt Sg
  rw [if_neg (nI_pos (by omega)), hl]
  by_cases c : a < n
  · rw [if_neg (nI_ge c (by omega)), if_neg (by rw [show (80 : Int32) = nI 80 from rfl]; exact nI_ge (by omega) (by decide)), ob (x4_rd rfl (by omega) (by decide)), if_pos c]
  · rw [if_pos (nI_le (by omega) (by omega)), if_neg c]
theorem isDigit_e (x : Int32) : f_X1_isDigit x = some (if Dg x then 1 else 0) := by
  unfold f_X1_isDigit
  by_cases c : x < 48
  · rw [if_pos c, if_neg (fun d => by have d1 := ti_le.1 d.1; have c1 := ti_lt.1 c; omega)]
  · by_cases d : 57 < x
    · rw [if_neg c, if_pos d, if_neg (fun e => by have d1 := ti_le.1 e.2; have c1 := ti_lt.1 d; omega)]
    · rw [if_neg c, if_neg d, if_pos]
      have c1 := mt ti_lt.2 c
      have d1 := mt ti_lt.2 d
      exact ⟨by rw [ti_le]; omega, by rw [ti_le]; omega⟩
theorem addNumber_e (hm : m < 3) (v : Int32) : f_X1_addNumber (QS pp l a m f) v = some (QS pp l a (m + 1) (upd f m v)) := by
  unfold f_X1_addNumber
  show (if nI m < 0 then _ else (if (3 : Int32) ≤ nI m then _ else ((wr f 3 (nI m) v).bind fun g3 => _))) = _
  rw [if_neg (nI_pos (by omega)), if_neg (by rw [show (3 : Int32) = nI 3 from rfl]; exact nI_ge hm (by decide)), ob (x4_wr rfl hm (by decide))]
  show some (P5 _ (nI m + 1)) = _
  rw [nI_1]
  rfl
theorem readPart_d (hl : pp.2.1 = nI n) (hn : n ≤ 80) (ha : a ≤ 80) (hm : m < 3) : f_X1_readPart (QS pp l a m f) 100 = if Dg (Sg pp.1 n a) then some (1, QS pp l (a + 1) (m + 1) (upd f m (Sg pp.1 n a - 48))) else some (0, QS pp l a m f) := by
  have hs : f_X1_signAt (QS pp l a m f) (QS pp l a m f).2.2.1 = some (Sg pp.1 n a) := signAt_e (q := QS pp l a m f) hl hn ha
  unfold f_X1_readPart
  rw [if_pos rfl, if_neg (by decide)]
  unfold f_X1_readNumber
  rw [ob hs, ob (isDigit_e _), ob hs]
  by_cases c : Dg (Sg pp.1 n a)
  · rw [if_pos c, if_neg n10, if_pos (by decide), ob rfl]
    show (((f_X1_addNumber (P2 (QS pp l a m f) (nI a + 1)) (Sg pp.1 n a - 48)).bind fun x9 => some ((1 : Int32), x9)).bind fun x3 => _) = _
    rw [nI_1]
    show (((f_X1_addNumber (QS pp l (a + 1) m f) (Sg pp.1 n a - 48)).bind fun x9 => some ((1 : Int32), x9)).bind fun x3 => _) = _
    rw [ob (addNumber_e hm _), ob rfl, ob gb1, if_pos c]
  · rw [if_neg c, if_pos rfl, ob rfl, ob gb0, if_neg c]
theorem i_as (x y z : Int32) : x + y - z = x + (y - z) := by
  rw [Int32.sub_eq_add_neg, Int32.sub_eq_add_neg, Int32.add_assoc]
theorem readPart_n (hl : pp.2.1 = nI n) (hn : n ≤ 80) (ha : a ≤ 80) (hm : m < 3) : f_X1_readPart (QS pp l a m f) 110 = if Dg (Sg pp.1 n a) then (if ¬ (Sg pp.1 n a - 48 ≤ 0) ∧ Dg (Sg pp.1 n (a + 1)) then some (1, QS pp l (a + 2) (m + 1) (upd f m (10 * (Sg pp.1 n a - 48) + (Sg pp.1 n (a + 1) - 48)))) else some (1, QS pp l (a + 1) (m + 1) (upd f m (Sg pp.1 n a - 48)))) else some (0, QS pp l a m f) := by
  have hs : f_X1_signAt (QS pp l a m f) (QS pp l a m f).2.2.1 = some (Sg pp.1 n a) := signAt_e (q := QS pp l a m f) hl hn ha
  unfold f_X1_readPart
  rw [if_neg (by decide), if_pos rfl, if_pos rfl]
  unfold f_X1_readNumber
  rw [ob hs, ob (isDigit_e _), ob hs]
  by_cases c : Dg (Sg pp.1 n a)
  · have hlt := Sg_lt c
    have hs1 : f_X1_signAt (QS pp l (a + 1) m f) (QS pp l (a + 1) m f).2.2.1 = some (Sg pp.1 n (a + 1)) := signAt_e (q := QS pp l (a + 1) m f) hl hn (by omega)
    have eP : P2 (QS pp l a m f) ((QS pp l a m f).2.2.1 + (1 : Int32)) = QS pp l (a + 1) m f := by
      show P2 (QS pp l a m f) (nI a + 1) = _
      rw [nI_1]
      rfl
    rw [if_pos c, if_neg n10, if_neg (by decide), if_pos c, eP, ob hs1, ob (isDigit_e _), ob hs1]
    have eP2 : P2 (QS pp l (a + 1) m f) ((QS pp l (a + 1) m f).2.2.1 + (1 : Int32)) = QS pp l (a + 2) m f := by
      show P2 (QS pp l (a + 1) m f) (nI (a + 1) + 1) = _
      rw [nI_1]
      rfl
    by_cases c1 : Sg pp.1 n a - 48 ≤ 0
    · rw [if_pos c1, ob rfl, ob (addNumber_e hm _), ob rfl, ob gb1, if_neg (fun d => d.1 c1)]
    · rw [if_neg c1]
      by_cases c2 : Dg (Sg pp.1 n (a + 1))
      · rw [if_pos c2, if_neg n10, eP2, ob rfl, ob (addNumber_e hm _), ob rfl, ob gb1, if_pos ⟨c1, c2⟩, i_as]
      · rw [if_neg c2, if_pos rfl, ob rfl, ob (addNumber_e hm _), ob rfl, ob gb1, if_neg (fun d => c2 d.2)]
  · rw [if_neg c, if_pos rfl, ob rfl, ob gb0, if_neg c]
theorem readPart_c (hl : pp.2.1 = nI n) (hn : n ≤ 80) (ha : a ≤ 80) {z : Int32} (h1 : ¬ z = 100) (h2 : ¬ z = 110) : f_X1_readPart (QS pp l a m f) z = if Sg pp.1 n a = z then some (1, QS pp l (a + 1) m f) else some (0, QS pp l a m f) := by
  have hs : f_X1_signAt (QS pp l a m f) (QS pp l a m f).2.2.1 = some (Sg pp.1 n a) := signAt_e (q := QS pp l a m f) hl hn ha
  unfold f_X1_readPart
  rw [if_neg h1, if_neg h2, ob hs]
  by_cases c : Sg pp.1 n a = z
  · rw [if_pos c, if_pos c]
    show some (_, P2 (QS pp l a m f) (nI a + 1)) = _
    rw [nI_1]
    rfl
  · rw [if_neg c, if_neg c]
theorem number_e (hm : m ≤ 3) {j : Nat} (hj : j < 3) : f_X1_number (QS pp l a m f) (nI j) = some (if j < m then f j else 0) := by
  unfold f_X1_number
  show (if nI j < 0 then _ else (if nI m ≤ nI j then _ else (if (3 : Int32) ≤ nI j then _ else ((rd f 3 (nI j)).bind fun x4 => _)))) = _
  rw [if_neg (nI_pos (by omega))]
  by_cases c : j < m
  · rw [if_neg (nI_ge c (by omega)), if_neg (by rw [show (3 : Int32) = nI 3 from rfl]; exact nI_ge hj (by decide)), ob (x4_rd rfl hj (by decide)), if_pos c]
  · rw [if_pos (nI_le (by omega) (by omega)), if_neg c]
end PS

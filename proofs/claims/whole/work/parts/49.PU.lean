/-! an order of the model behind its letter -/
theorem b_eta {α β : Type} (o : Option (α × β)) : (o.bind fun x => some (x.1, x.2)) = o := by cases o <;> rfl
def ordT (l : Int32) (z : MM) (a1 : Int32) : Option (Int32 × MM) := (((if l = (119 : Int32) then ((f_X4_number z).bind fun x94 => some (x94.1, x94.2)) else (if l = (102 : Int32) then ((f_X4_number z).bind fun x97 => some (x97.1, x97.2)) else (if l = (116 : Int32) then ((f_X4_number z).bind fun x102 => some (x102.1, x102.2)) else ((f_X4_digit z).bind fun x100 => some (x100.1, x100.2))))) : Option (Int32 × MM)).bind fun v7 => (((if l = (115 : Int32) then ((f_X4_sign v7.2 (62 : Int32) (62 : Int32)).bind fun x91 => some x91.2) else some v7.2) : Option (MM)).bind fun v8 => (((if l = (119 : Int32) then ((f_X4_sign v8 (46 : Int32) (46 : Int32)).bind fun x88 => some x88.2) else some v8) : Option (MM)).bind fun v9 => (((if l = (112 : Int32) then ((f_X4_digit v9).bind fun x76 => some (x76.1, x76.2)) else (if l = (115 : Int32) then ((f_X4_digit v9).bind fun x79 => some (x79.1, x79.2)) else (if l = (105 : Int32) then ((f_X4_digit v9).bind fun x82 => some (x82.1, x82.2)) else (if l = (119 : Int32) then ((f_X4_digit v9).bind fun x85 => some (x85.1, x85.2)) else some ((0 : Int32), v9))))) : Option (Int32 × MM)).bind fun l0 => (((if l = (105 : Int32) then ((f_X4_sign l0.2 (47 : Int32) (47 : Int32)).bind fun x71 => ((f_X4_digit x71.2).bind fun x73 => some (x73.1, x73.2))) else some ((0 : Int32), l0.2)) : Option (Int32 × MM)).bind fun l1 => (if a1 = 0 then some ((0 : Int32), l1.2) else (if l = (102 : Int32) then ((f_X4_fights l1.2.1 v7.1).bind fun x15 => some (x15.1, (M0 l1.2 x15.2))) else (if l = (103 : Int32) then ((f_X4_turns l1.2.1 v7.1).bind fun x18 => some (x18.1, (M0 l1.2 x18.2))) else (if l = (104 : Int32) then ((f_X4_turns l1.2.1 v7.1).bind fun x21 => some (x21.1, (M0 l1.2 x21.2))) else (if l = (105 : Int32) then ((f_X4_offends l1.2.1 v7.1 l0.1 l1.1).bind fun x24 => some (x24.1, (M0 l1.2 x24.2))) else (if l = (106 : Int32) then ((f_X4_turns l1.2.1 v7.1).bind fun x27 => some (x27.1, (M0 l1.2 x27.2))) else (if l = (107 : Int32) then ((f_X4_turns l1.2.1 v7.1).bind fun x30 => some (x30.1, (M0 l1.2 x30.2))) else (if l = (108 : Int32) then ((f_X4_turns l1.2.1 v7.1).bind fun x33 => some (x33.1, (M0 l1.2 x33.2))) else (if l = (109 : Int32) then ((f_X4_turns l1.2.1 v7.1).bind fun x36 => some (x36.1, (M0 l1.2 x36.2))) else (if l = (110 : Int32) then ((f_X4_turns l1.2.1 v7.1).bind fun x39 => some (x39.1, (M0 l1.2 x39.2))) else (if l = (111 : Int32) then ((f_X4_swears l1.2.1 v7.1).bind fun x42 => some (x42.1, (M0 l1.2 x42.2))) else (if l = (112 : Int32) then ((f_X4_comes l1.2.1 v7.1 l0.1).bind fun x45 => some (x45.1, (M0 l1.2 x45.2))) else (if l = (113 : Int32) then ((f_X4_turns l1.2.1 v7.1).bind fun x48 => some (x48.1, (M0 l1.2 x48.2))) else (if l = (114 : Int32) then ((f_X4_turns l1.2.1 v7.1).bind fun x51 => some (x51.1, (M0 l1.2 x51.2))) else (if l = (115 : Int32) then ((f_X4_takes l1.2.1 v7.1 l0.1).bind fun x54 => some (x54.1, (M0 l1.2 x54.2))) else (if l = (116 : Int32) then ((f_X4_passes l1.2.1 v7.1).bind fun x57 => some (x57.1, (M0 l1.2 x57.2))) else (if l = (117 : Int32) then ((f_X4_turns l1.2.1 v7.1).bind fun x60 => some (x60.1, (M0 l1.2 x60.2))) else (if l = (118 : Int32) then ((f_X4_turns l1.2.1 v7.1).bind fun x63 => some (x63.1, (M0 l1.2 x63.2))) else (if l = (119 : Int32) then ((f_X4_settles l1.2.1 v7.1 l0.1).bind fun x66 => some (x66.1, (M0 l1.2 x66.2))) else ((f_X4_turns l1.2.1 v7.1).bind fun x68 => some (x68.1, (M0 l1.2 x68.2)))))))))))))))))))))))))))
theorem order_gen (t : MM) (a1 : Int32) {l : Int32} (h1 : (if t.2.2.2.2.2.2.2.1 ≤ t.2.2.2.2.2.2.2.2.1 then some (0 : Int32) else ((rd t.2.2.2.2.2.2.1 80 t.2.2.2.2.2.2.2.2.1).bind fun x116 => some x116)) = some l)
    (h2 : (if l = (112 : Int32) then some (1 : Int32) else (if l = (115 : Int32) then some (1 : Int32) else (if l = (105 : Int32) then some (1 : Int32) else (if l = (119 : Int32) then some (1 : Int32) else (if l = (102 : Int32) then some (1 : Int32) else (if l = (111 : Int32) then some (1 : Int32) else (if l = (116 : Int32) then some (1 : Int32) else (if l = (97 : Int32) then some (1 : Int32) else some (0 : Int32))))))))) = some 1)
    (hw : t.2.2.2.2.2.2.2.2.2 = 0) : f_X4_order t a1 = ordT l (M8 (M9 t 0) (t.2.2.2.2.2.2.2.2.1 + 1)) a1 := by
  unfold f_X4_order
  rw [ob h1, ob h2, hw, if_pos rfl, if_neg n10, ob rfl, ob gb0]
  show ((if (0 : Int32) = 0 then some (1 : Int32) else some (0 : Int32)).bind fun v6 => _) = _
  rw [if_pos rfl, ob rfl]
  rfl
theorem order_bad (t : MM) {l : Int32} (h1 : (if t.2.2.2.2.2.2.2.1 ≤ t.2.2.2.2.2.2.2.2.1 then some (0 : Int32) else ((rd t.2.2.2.2.2.2.1 80 t.2.2.2.2.2.2.2.2.1).bind fun x116 => some x116)) = some l)
    (h2 : (if l = (112 : Int32) then some (1 : Int32) else (if l = (115 : Int32) then some (1 : Int32) else (if l = (105 : Int32) then some (1 : Int32) else (if l = (119 : Int32) then some (1 : Int32) else (if l = (102 : Int32) then some (1 : Int32) else (if l = (111 : Int32) then some (1 : Int32) else (if l = (116 : Int32) then some (1 : Int32) else (if l = (97 : Int32) then some (1 : Int32) else some (0 : Int32))))))))) = some 0)
    (hw : t.2.2.2.2.2.2.2.2.2 = 0) : f_X4_order t 0 = ordT l (M8 (M9 t 1) (t.2.2.2.2.2.2.2.2.1 + 0)) 0 := by
  unfold f_X4_order
  rw [ob h1, ob h2, hw, if_pos rfl, if_pos rfl, ob rfl, ob gb1]
  show ((if (1 : Int32) = 0 then some (1 : Int32) else some (0 : Int32)).bind fun v6 => _) = _
  rw [if_neg n10, ob rfl]
  rfl
section PU
variable {mm : MM} {n a : Nat}
theorem ord_e (hl : mm.2.2.2.2.2.2.2.1 = nI n) (hn : n ≤ 80) (ha : a ≤ 80) {l : Int32} (hv : Sg mm.2.2.2.2.2.2.1 n a = l)
    (h2 : (if l = (112 : Int32) then some (1 : Int32) else (if l = (115 : Int32) then some (1 : Int32) else (if l = (105 : Int32) then some (1 : Int32) else (if l = (119 : Int32) then some (1 : Int32) else (if l = (102 : Int32) then some (1 : Int32) else (if l = (111 : Int32) then some (1 : Int32) else (if l = (116 : Int32) then some (1 : Int32) else (if l = (97 : Int32) then some (1 : Int32) else some (0 : Int32))))))))) = some 1) (x : Int32) : f_X4_order (PM mm a 0) x = ordT l (PM mm (a + 1) 0) x := by
  have h := order_gen (PM mm a 0) x (l := l) (hv ▸ v1_e (a := a) hl hn ha) h2 rfl
  rw [h]
  show ordT l (M8 (M9 (PM mm a 0) 0) (nI a + 1)) x = _
  rw [nI_1]
  rfl
theorem ord_bad (hl : mm.2.2.2.2.2.2.2.1 = nI n) (hn : n ≤ 80) (ha : a ≤ 80) {l : Int32} (hv : Sg mm.2.2.2.2.2.2.1 n a = l)
    (hb : ¬ (l = 112 ∨ l = 115 ∨ l = 105 ∨ l = 119 ∨ l = 102 ∨ l = 111 ∨ l = 116 ∨ l = 97)) : f_X4_order (PM mm a 0) 0 = some (0, PM mm a 1) := by
  have b1 : ¬ l = 112 := fun d => hb (by simp [d])
  have b2 : ¬ l = 115 := fun d => hb (by simp [d])
  have b3 : ¬ l = 105 := fun d => hb (by simp [d])
  have b4 : ¬ l = 119 := fun d => hb (by simp [d])
  have b5 : ¬ l = 102 := fun d => hb (by simp [d])
  have b6 : ¬ l = 111 := fun d => hb (by simp [d])
  have b7 : ¬ l = 116 := fun d => hb (by simp [d])
  have b8 : ¬ l = 97 := fun d => hb (by simp [d])
  have h := order_bad (PM mm a 0) (l := l) (hv ▸ v1_e (a := a) hl hn ha) (by rw [if_neg b1, if_neg b2, if_neg b3, if_neg b4, if_neg b5, if_neg b6, if_neg b7, if_neg b8]) rfl
  rw [h]
  show ordT l (M8 (M9 (PM mm a 0) 1) (nI a + 0)) 0 = _
  rw [i_add0]
  show ordT l (PM mm a 1) 0 = _
  obtain ⟨v, hd⟩ := digit_1 (a := a) hl hn ha
  unfold ordT
  rw [if_neg b4, if_neg b5, if_neg b7, b_eta, ob hd, if_neg b2, ob rfl, if_neg b4, ob rfl, if_neg b1, if_neg b2, if_neg b3, if_neg b4, ob rfl, if_neg b3, ob rfl, if_pos rfl]
end PU

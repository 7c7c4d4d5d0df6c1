/-! points, oaths, events -/
def cl (z : Int32) : Int32 := if (0 : Int32) < (if z < 9 then z else 9) then (if z < 9 then z else 9) else 0
theorem cl_b (z : Int32) : 0 ≤ (cl z).toInt ∧ (cl z).toInt ≤ 9 := by
  unfold cl
  by_cases c : z < 9
  · rw [if_pos c]
    by_cases d : (0 : Int32) < z
    · rw [if_pos d]
      have c' := ti_lt.1 c
      have d' := ti_lt.1 d
      rw [ti_9] at c'
      rw [ti_0] at d'
      omega
    · rw [if_neg d]; decide
  · rw [if_neg c, if_pos (by decide)]; decide
theorem cl_4 (z : Int32) : (if 0 ≤ z then (if z ≤ 9 then z else 9) else 0) = cl z := by
  unfold cl
  by_cases c : z < 9
  · rw [if_pos c]
    have c' := ti_lt.1 c
    rw [ti_9] at c'
    by_cases d : (0 : Int32) < z
    · have d' := ti_lt.1 d
      rw [ti_0] at d'
      rw [if_pos d, if_pos (by rw [ti_le, ti_0]; omega), if_pos (by rw [ti_le, ti_9]; omega)]
    · rw [if_neg d]
      have d' := mt ti_lt.2 d
      rw [ti_0] at d'
      by_cases d2 : 0 ≤ z
      · have d3 := ti_le.1 d2
        rw [ti_0] at d3
        rw [if_pos d2, if_pos (by rw [ti_le, ti_9]; omega), ti_eq, ti_0]
        omega
      · rw [if_neg d2]
  · rw [if_neg c, if_pos (show (0 : Int32) < 9 by decide)]
    have c' := mt ti_lt.2 c
    rw [ti_9] at c'
    rw [if_pos (by rw [ti_le, ti_0]; omega)]
    by_cases d : z ≤ 9
    · rw [if_pos d]
      have d' := ti_le.1 d
      rw [ti_9] at d'
      rw [ti_eq, ti_9]; omega
    · rw [if_neg d]
abbrev chg (u : Nat → Int32) (k w : Nat) (b : Int32) : Nat → Int32 := upd u (6 + 4 * k + w) (cl (pv u k w + b))
abbrev ov (u : Nat → Int32) (k : Nat) : Int32 := if u 4 + u 2 ≤ pv u k 3 then pv u k 3 else u 4 + u 2
abbrev oth (u : Nat → Int32) (k : Nat) : Nat → Int32 := upd u (6 + 4 * k + 3) (ov u k)
section SK
variable {B : Nat} {t : TT} {u : Nat → Int32} {np nq : Nat}
theorem addPoints_e (hR : RT B t u) {k : Nat} (w : Nat) {a : Int32} (ha : a = nI (4 + 10 * w)) (hk : k < 10) (hw : w < 4) (b : Int32) : ∃ t', f_X2_addPoints t a (nI k) b = some t' ∧ RT B t' (chg u k w b) := by
  obtain ⟨t', h1, h2⟩ := x2_wp hR w ha hk hw (cl (pv u k w + b))
  refine ⟨t', ?_, h2⟩
  unfold f_X2_addPoints
  rw [ob (x2_p hR w ha hk hw)]
  exact (ob h1)
theorem change_e {k w : Nat} {a b : Int32} (ha : a = nI w) (hk : k < 10) (hw : w < 4) : f_X4_change u (nI k) a b = some (chg u k w b) := by
  unfold f_X4_change
  rw [ob (x4_p w ha hk hw), x4_pi ha]
  have hwr : ∀ v : Int32, ((wr u 181 (nI (6 + 4 * k + w)) v).bind fun g5 => some g5) = some (upd u (6 + 4 * k + w) v) := fun v => by
    rw [ob (x4_wr rfl (by omega) (by decide))]
  rw [hwr, hwr, hwr]
  show _ = some (upd u (6 + 4 * k + w) (cl (pv u k w + b)))
  rw [← cl_4]
  by_cases c : 0 ≤ pv u k w + b
  · rw [if_pos c, if_pos c]
    by_cases d : pv u k w + b ≤ 9
    · rw [if_pos d, if_pos d]
    · rw [if_neg d, if_neg d]
  · rw [if_neg c, if_neg c]
theorem bind_e (hR : RT B t u) {k : Nat} (hk : k < 10) : ∃ t', f_X2_bindByOath t (nI k) = some t' ∧ RT B t' (oth u k) := by
  obtain ⟨t', h1, h2⟩ := x2_wp hR 3 (a := 34) rfl hk (by decide) (ov u k)
  refine ⟨t', ?_, h2⟩
  unfold f_X2_bindByOath
  have e : (if u 4 + u 2 < pv u k 3 then pv u k 3 else u 4 + u 2) = ov u k := by
    show _ = (if u 4 + u 2 ≤ pv u k 3 then pv u k 3 else u 4 + u 2)
    by_cases c : u 4 + u 2 < pv u k 3
    · rw [if_pos c, if_pos (by have := ti_lt.1 c; rw [ti_le]; omega)]
    · rw [if_neg c]
      by_cases d : u 4 + u 2 ≤ pv u k 3
      · rw [if_pos d, ti_eq]
        have c' := mt ti_lt.2 c
        have d' := ti_le.1 d
        omega
      · rw [if_neg d]
  rw [ob (rs2 hR), ob (rdp3 hR hk), hR.1, e, ob h1]
theorem oath_e {k : Nat} (hk : k < 10) : f_X4_oath u (nI k) = some (oth u k) := by
  unfold f_X4_oath
  rw [ob ms4, ob ms2, ob (mp3 hk)]
  by_cases c : u 4 + u 2 ≤ pv u k 3
  · rw [if_pos c, ob (mp3 hk), x4_pi (w := 3) (a := 3) rfl, ob (x4_wr rfl (by omega) (by decide))]
    show _ = some (upd u (6 + 4 * k + 3) (if u 4 + u 2 ≤ pv u k 3 then pv u k 3 else u 4 + u 2))
    rw [if_pos c]
  · rw [if_neg c, x4_pi (w := 3) (a := 3) rfl, ob (x4_wr rfl (by omega) (by decide))]
    show _ = some (upd u (6 + 4 * k + 3) (if u 4 + u 2 ≤ pv u k 3 then pv u k 3 else u 4 + u 2))
    rw [if_neg c]
theorem ov_b (hS : US u) {k : Nat} (h1 : 0 ≤ (pv u k 3).toInt) (h2 : (pv u k 3).toInt ≤ 10199) : 0 ≤ (ov u k).toInt ∧ (ov u k).toInt ≤ 10199 := by
  have h4 := hS.2.2.2.2.1
  have h0 := hS.2.2.1
  show 0 ≤ (if u 4 + u 2 ≤ pv u k 3 then pv u k 3 else u 4 + u 2).toInt ∧ (if u 4 + u 2 ≤ pv u k 3 then pv u k 3 else u 4 + u 2).toInt ≤ 10199
  by_cases c : u 4 + u 2 ≤ pv u k 3
  · rw [if_pos c]; exact ⟨h1, h2⟩
  · rw [if_neg c, ti_add (by omega) (by omega)]; omega
theorem UN_chg {k w : Nat} (hN : UN u np nq) (hk : k < 10) (hw : w < 2) (b : Int32) : UN (chg u k w b) np nq :=
  UN_p hN hk (by omega) (fun _ => ⟨fun _ => cl_b _, fun _ => cl_b _, fun c => by omega, fun c => by omega⟩)
theorem US_chg {k w : Nat} (hS : US u) (hk : k < 10) (hw : w < 4) (b : Int32) : US (chg u k w b) := US_u hS (by omega) (by omega)
theorem UN_oth {k : Nat} (hS : US u) (hN : UN u np nq) (hk : k < np) : UN (oth u k) np nq := by
  have hp := hN.1
  have pi := (hN.2.2.2.2.1 k hk).2.2.2
  exact UN_p hN (by omega) (by decide) (fun _ => ⟨fun c => by omega, fun c => by omega, fun c => by omega, fun _ => ov_b hS pi.1 pi.2⟩)
theorem US_oth {k : Nat} (hS : US u) (hk : k < 10) : US (oth u k) := US_u hS (by omega) (by omega)
theorem tell_loop (a b : Int32) : ∀ (d n : Nat) (z : Nat → Int32), d < n → d ≤ 33 → ∃ z', f_X4_tell_L33 a b n z (nI (147 + d)) = some z' ∧ ∀ j, z' j = if 148 ≤ j ∧ j ≤ 147 + d then z (j - 3) else z j := by
  intro d
  induction d with
  | zero =>
    intro n z h1 h2
    obtain ⟨n, rfl⟩ : ∃ n', n = n' + 1 := ⟨n - 1, by omega⟩
    refine ⟨z, ?_, fun j => by rw [if_neg (by omega)]⟩
    rw [f_X4_tell_L33, if_pos (by decide)]
  | succ d ih =>
    intro n z h1 h2
    obtain ⟨n, rfl⟩ : ∃ n', n = n' + 1 := ⟨n - 1, by omega⟩
    obtain ⟨z', h3, h4⟩ := ih n (upd z (147 + (d + 1)) (z (144 + (d + 1)))) (by omega) (by omega)
    refine ⟨z', ?_, fun j => ?_⟩
    · have e1 : nI (147 + (d + 1)) - 3 = nI (144 + (d + 1)) := by
        rw [show (3 : Int32) = nI 3 from rfl, pk_sub (by omega)]
        exact congrArg nI (by omega)
      have e2 : nI (147 + (d + 1)) + (-1) = nI (147 + d) := pk_m1 (147 + d)
      rw [f_X4_tell_L33, if_neg (by rw [show (148 : Int32) = nI 148 from rfl]; exact nI_nlt (by omega) (by omega)), e1, ob (x4_rd rfl (by omega) (by decide)), ob (x4_wr rfl (by omega) (by decide)), e2, h3]
    · rw [h4 j]
      by_cases c : 148 ≤ j ∧ j ≤ 147 + d
      · rw [if_pos c, if_pos (by omega), pk_un (by omega)]
      · rw [if_neg c]
        by_cases c2 : j = 147 + (d + 1)
        · rw [c2, pk_us, if_pos (by omega)]
          exact congrArg z (by omega)
        · rw [pk_un c2, if_neg (by omega)]
theorem tell_e (hR : RT B t u) (hB : B < 1000000) (a b : Int32) : ∃ t' u', f_X2_addEvent t a b = some t' ∧ f_X4_tell u a b = some u' ∧ RT (B + 1) t' u' ∧ ∀ j, j < 144 → u' j = u j := by
  obtain ⟨ne, e1, e2, e3, e4⟩ := hR.2.2.2.2.2
  have hm : ne % 12 < 12 := Nat.mod_lt _ (by decide)
  have v5 : (if (12 : Int32) ≤ u 144 then some (0 : Int32) else some (1 : Int32)) = some (if 12 ≤ ne then 0 else 1) := by
    rw [e3, show (12 : Int32) = nI 12 from rfl]
    by_cases c : 12 ≤ ne
    · rw [if_pos (nI_le (by omega) (by omega)), if_pos c]
    · rw [if_neg (nI_ge (by omega) (by omega)), if_neg c]
  have v6 : u 144 + (if 12 ≤ ne then 0 else 1) = nI (min (ne + 1) 12) := by
    rw [e3]
    by_cases c : 12 ≤ ne
    · rw [if_pos c, i_add0]; exact congrArg nI (by omega)
    · rw [if_neg c, nI_1]; exact congrArg nI (by omega)
  obtain ⟨z, z1, z2⟩ := tell_loop a b 33 2000 (upd u 144 (nI (min (ne + 1) 12))) (by decide) (by decide)
  have z1' : f_X4_tell_L33 a b 2000 (upd u 144 (nI (min (ne + 1) 12))) 180 = some z := z1
  refine ⟨T4 (T5 (T5 (T5 t (upd t.2.2.2.2.2 (140 + ne % 12) a)) (upd (upd t.2.2.2.2.2 (140 + ne % 12) a) (152 + ne % 12) t.1)) (upd (upd (upd t.2.2.2.2.2 (140 + ne % 12) a) (152 + ne % 12) t.1) (164 + ne % 12) b)) (nI (ne + 1)), upd (upd (upd z 145 a) 146 (upd z 145 a 4)) 147 b, ?_, ?_, ?_, ?_⟩
  · unfold f_X2_addEvent
    rw [e2, ob (fm12 (by omega)), ob (x2_wr (r := 140) (a := 140) rfl (by omega)), ob (x2_wr (r := 152) (a := 152) rfl (by omega)), ob (x2_wr (r := 164) (a := 164) rfl (by omega))]
    show some (T4 _ (t.2.2.2.2.1 + 1)) = _
    rw [e2, nI_1]
    rfl
  · unfold f_X4_tell
    rw [ob ms144, ob ms144, ob v5, v6, ob (x4_wr (n := 144) (a := 144) rfl (by decide) (by decide)), ob z1', ob (x4_wr (n := 145) (a := 145) rfl (by decide) (by decide)), ob (x4_rd (n := 4) (a := 4) rfl (by decide) (by decide)), ob (x4_wr (n := 146) (a := 146) rfl (by decide) (by decide)), ob (x4_wr (n := 147) (a := 147) rfl (by decide) (by decide))]
  · have low : ∀ j, j < 144 → upd (upd (upd z 145 a) 146 (upd z 145 a 4)) 147 b j = u j := by
      intro j hj
      rw [pk_un (by omega), pk_un (by omega), pk_un (by omega), z2 j, if_neg (by omega), pk_un (by omega)]
    refine ⟨?_, ?_, ?_, ?_, RC_cg hR.2.2.2.2.1 (fun j hj => ?_) (fun j hj _ _ _ _ => low j hj), ne + 1, by omega, rfl, ?_, fun r w hr hw => ?_⟩
    · rw [low 4 (by decide)]; exact hR.1
    · rw [low 46 (by decide)]; exact hR.2.1
    · rw [low 5 (by decide)]; exact hR.2.2.1
    · rw [low 47 (by decide)]; exact hR.2.2.2.1
    · show upd (upd (upd t.2.2.2.2.2 (140 + ne % 12) a) (152 + ne % 12) t.1) (164 + ne % 12) b j = _
      rw [pk_un (by omega), pk_un (by omega), pk_un (by omega)]
    · rw [pk_un (by omega), pk_un (by omega), pk_un (by omega), z2 144, if_neg (by omega), pk_us]
    · show upd (upd (upd t.2.2.2.2.2 (140 + ne % 12) a) (152 + ne % 12) t.1) (164 + ne % 12) b (140 + 12 * w + (ne + 1 - 1 - r) % 12) = _
      have hmr : (ne + 1 - 1 - r) % 12 < 12 := Nat.mod_lt _ (by decide)
      by_cases hr0 : r = 0
      · subst hr0
        have em : (ne + 1 - 1 - 0) % 12 = ne % 12 := by rw [show ne + 1 - 1 - 0 = ne from by omega]
        rw [em]
        have hw3 : w = 0 ∨ w = 1 ∨ w = 2 := by omega
        rcases hw3 with rfl | rfl | rfl
        · rw [pk_un (by omega), pk_un (by omega), show 140 + 12 * 0 + ne % 12 = 140 + ne % 12 from by omega, pk_us, pk_un (by omega), pk_un (by omega), pk_us]
        · rw [pk_un (by omega), show 140 + 12 * 1 + ne % 12 = 152 + ne % 12 from by omega, pk_us, pk_un (by omega), pk_us, pk_un (by omega), z2 4, if_neg (by omega), pk_un (by omega), hR.1]
        · rw [show 140 + 12 * 2 + ne % 12 = 164 + ne % 12 from by omega, pk_us, pk_us]
      · have hne : (ne + 1 - 1 - r) % 12 ≠ ne % 12 := by omega
        rw [pk_un (by omega), pk_un (by omega), pk_un (by omega), pk_un (by omega), pk_un (by omega), pk_un (by omega), z2 _, if_pos (by omega), pk_un (by omega)]
        have h4 := e4 (r - 1) w (by omega) hw
        rw [show ne - 1 - (r - 1) = ne + 1 - 1 - r from by omega] at h4
        rw [h4]
        exact congrArg u (by omega)
  · intro j hj
    rw [pk_un (by omega), pk_un (by omega), pk_un (by omega), z2 j, if_neg (by omega), pk_un (by omega)]
end SK

/-! put: both read the number's characters alike -/
abbrev bv (y : Int64) : Nat := y.toBitVec.toNat
theorem l_and (y : Int64) : y &&& 255 = lN (bv y % 256) := by
  apply Int64.toBitVec_inj.mp
  apply BitVec.eq_of_toNat_eq
  rw [Int64.toBitVec_and, BitVec.toNat_and, show (255 : Int64).toBitVec.toNat = 2 ^ 8 - 1 from by decide, Nat.and_two_pow_sub_one_eq_mod]
  show _ = (BitVec.ofNat 64 _).toNat
  rw [BitVec.toNat_ofNat]
  exact (Nat.mod_eq_of_lt (by have : bv y % 256 < 256 := Nat.mod_lt _ (by decide); omega)).symm
theorem l_shr (y : Int64) (r : UInt64) (k : Nat) (hr : (r.toBitVec % 64).toNat = k) : bv (y.toUInt64 >>> r).toInt64 = bv y / 2 ^ k := by
  have e : (y.toUInt64 >>> r).toInt64.toBitVec = y.toBitVec >>> k := by
    rw [← hr]
    exact UInt64.toBitVec_shiftRight _ _
  show (y.toUInt64 >>> r).toInt64.toBitVec.toNat = _
  rw [e, BitVec.toNat_ushiftRight, Nat.shiftRight_eq_div_pow]
theorem sh_8 : (((8 : Int32).toInt64.toUInt64 &&& Int64.toUInt64 63).toBitVec % 64).toNat = 8 := by decide
theorem sh_j : ∀ j, j < 8 → ((((8 : Int32) * nI j).toInt64.toUInt64 &&& Int64.toUInt64 63).toBitVec % 64).toNat = 8 * j := by decide +kernel
abbrev ch (x : Int64) (k : Nat) : Nat := bv x / 2 ^ (8 * k) % 256
theorem code_e (x : Int64) {j : Nat} (hj : j < 8) : f_X4_code x (nI j) = some (nI (ch x j)) := by
  unfold f_X4_code
  rw [l_and, l_shr x _ (8 * j) (sh_j j hj), lN_i]
theorem l_0 (y : Int64) : lg_cmp y 0 = 0 ↔ bv y = 0 := by
  rw [lg_cmp_eq]
  constructor
  · intro h; subst h; decide
  · intro h
    apply Int64.toBitVec_inj.mp
    apply BitVec.eq_of_toNat_eq
    exact h
theorem l_c0 {v : Nat} (hv : v < 256) : lg_cmp (lN v) 0 = 0 ↔ v = 0 := by
  rw [lg_cmp_eq, show (0 : Int64) = lN 0 from rfl, lN_eq (by omega) (by omega)]
theorem l_c33 {v : Nat} (hv : v < 256) : lg_cmp (lN v) 33 < 0 ↔ v < 33 := by
  rw [lg_cmp_lt, show (33 : Int64) = lN 33 from rfl, lN_lt (by omega) (by omega)]
theorem l_c126 {v : Nat} (hv : v < 256) : lg_cmp (lN v) 126 ≤ 0 ↔ v ≤ 126 := by
  rw [lg_cmp_le, show (126 : Int64) = lN 126 from rfl, lN_le (by omega) (by omega)]
theorem div_8 (x k : Nat) : x / 2 ^ (8 * k) / 256 = x / 2 ^ (8 * (k + 1)) := by
  rw [Nat.div_div_eq_div_mul, show 8 * (k + 1) = 8 * k + 8 from by omega, Nat.pow_add]
abbrev okc (x : Int64) (r : Nat) : Prop := ∀ i, i < r → 33 ≤ ch x i ∧ ch x i ≤ 126
abbrev putT (mm : MM) (x : Int64) (r : Nat) : Option (Int32 × MM) := if (mm.2.2.2.2.2.2.2.1 + nI r) ≤ (80 : Int32) then ((f_X4_put_L83 x 2000 mm (nI r - (1 : Int32))).bind fun v10 => some (v10.2.2.2.2.2.2.2.1, v10)) else some ((-4 : Int32), mm)
theorem signs_loop (mm : MM) (x : Int64) : ∀ (d k n : Nat) (y : Int64), k + d = 8 → d < n → bv y = bv x / 2 ^ (8 * k) → okc x k →
    ∃ r : Nat, r ≤ 8 ∧ f_X1_signsIn_L5 n y (nI k) = some (nI r) ∧ ((r = 0 ∧ f_X4_put_L2 mm x n (nI k) = some (-2, mm)) ∨ (0 < r ∧ okc x r ∧ f_X4_put_L2 mm x n (nI k) = putT mm x r)) := by
  intro d
  induction d with
  | zero =>
    intro k n y h1 h2 h3 h4
    obtain ⟨n, rfl⟩ : ∃ n', n = n' + 1 := ⟨n - 1, by omega⟩
    obtain rfl : k = 8 := by omega
    have hy : lg_cmp y 0 = 0 := by
      rw [l_0, h3]
      exact Nat.div_eq_of_lt x.toBitVec.isLt
    refine ⟨8, Nat.le_refl 8, ?_, Or.inr ⟨by decide, h4, ?_⟩⟩
    · rw [f_X1_signsIn_L5, if_pos (by decide), if_pos hy]
    · rw [f_X4_put_L2, if_pos (by decide), if_neg (by decide), if_pos (by decide)]
  | succ d ih =>
    intro k n y h1 h2 h3 h4
    obtain ⟨n, rfl⟩ : ∃ n', n = n' + 1 := ⟨n - 1, by omega⟩
    have hk : k < 8 := by omega
    have h8 : ¬ (8 : Int32) ≤ nI k := by rw [show (8 : Int32) = nI 8 from rfl]; exact nI_ge hk (by decide)
    have hv : ch x k < 256 := Nat.mod_lt _ (by decide)
    have ey : y &&& 255 = lN (ch x k) := by rw [l_and, h3]
    have eyn : bv ((y.toUInt64 >>> ((8 : Int32).toInt64.toUInt64 &&& Int64.toUInt64 63)).toInt64) = bv x / 2 ^ (8 * (k + 1)) := by
      rw [l_shr y _ 8 sh_8, h3]
      exact div_8 _ k
    have exk : lg_cmp ((x.toUInt64 >>> (((8 : Int32) * nI k).toInt64.toUInt64 &&& Int64.toUInt64 63)).toInt64) (0 : Int64) = 0 ↔ bv x / 2 ^ (8 * k) = 0 := by
      rw [l_0, l_shr x _ (8 * k) (sh_j k hk)]
    rw [f_X1_signsIn_L5, f_X4_put_L2, if_neg h8, if_neg h8, ey, ob (code_e x hk), ob (code_e x hk)]
    by_cases c0 : ch x k = 0
    · have e0 : nI (ch x k) = 0 := by rw [c0]; exact nI_0
      rw [if_pos ((l_c0 hv).2 c0), if_pos e0, if_neg h8]
      by_cases ck : k = 0
      · subst ck
        refine ⟨0, by decide, ?_, Or.inl ⟨rfl, by rw [if_pos nI_0]⟩⟩
        split <;> rfl
      · rw [if_neg (nI_ne0 (by omega) (by omega))]
        by_cases cz : bv x / 2 ^ (8 * k) = 0
        · refine ⟨k, by omega, by rw [if_pos ((l_0 y).2 (h3.trans cz))], Or.inr ⟨by omega, h4, by rw [if_pos (exk.2 cz)]⟩⟩
        · refine ⟨0, by decide, by rw [if_neg (fun e => cz (h3.symm.trans ((l_0 y).1 e)))]; exact congrArg some nI_0.symm, Or.inl ⟨rfl, by rw [if_neg (fun e => cz (exk.1 e))]⟩⟩
    · have e0 : ¬ nI (ch x k) = 0 := nI_ne0 (by omega) (by omega)
      rw [if_neg (fun e => c0 ((l_c0 hv).1 e)), if_neg e0, in_e]
      by_cases c1 : ch x k < 33
      · refine ⟨0, by decide, by rw [if_pos ((l_c33 hv).2 c1)]; exact congrArg some nI_0.symm, Or.inl ⟨rfl, ?_⟩⟩
        rw [if_pos (Or.inl (by rw [show (33 : Int32) = nI 33 from rfl]; exact nI_lt c1 (by decide)))]
        rfl
      · rw [if_neg (fun e => c1 ((l_c33 hv).1 e))]
        by_cases c2 : ch x k ≤ 126
        · have c3 : ¬ (nI (ch x k) < 33 ∨ 126 < nI (ch x k)) := fun e => e.elim
            (fun e => absurd e (by rw [show (33 : Int32) = nI 33 from rfl]; exact nI_nlt (by omega) (by omega)))
            (fun e => absurd e (by rw [show (126 : Int32) = nI 126 from rfl]; exact nI_nlt (by omega) (by decide)))
          rw [if_pos ((l_c126 hv).2 c2), if_neg c3, ob rfl, if_neg n10, nI_1]
          refine ih (k + 1) n _ (by omega) (by omega) eyn (fun i hi => ?_)
          by_cases ci : i = k
          · subst ci; omega
          · exact h4 i (by omega)
        · rw [if_neg (fun e => c2 ((l_c126 hv).1 e))]
          refine ⟨0, by decide, congrArg some nI_0.symm, Or.inl ⟨rfl, ?_⟩⟩
          rw [if_pos (Or.inr (by rw [show (126 : Int32) = nI 126 from rfl]; exact nI_lt (by omega) (by omega)))]
          rfl
def ix : Nat → Int32
  | 0 => -1
  | k + 1 => nI k
theorem ix_m (k : Nat) : nI k - 1 = ix k := by
  cases k with
  | zero => decide
  | succ k => exact nI_pred k
theorem ix_s (k : Nat) : nI k + (-1) = ix k := by
  cases k with
  | zero => decide
  | succ k => exact pk_m1 k
theorem append_loop (x : Int64) {r : Nat} (hr : r ≤ 8) (hok : okc x r) : ∀ (k m : Nat) (pp : PP) (mm : MM) (n : Nat), k ≤ r → k < m → n + k ≤ 80 → pp.2.1 = nI n → mm.2.2.2.2.2.2.2.1 = nI n → (∀ i, i < n → pp.1 i = mm.2.2.2.2.2.2.1 i) → (∀ i, i < n → 33 ≤ (pp.1 i).toInt ∧ (pp.1 i).toInt ≤ 126) →
    ∃ pp' g l, f_X1_append_L28 x m pp (ix k) = some pp' ∧ f_X4_put_L83 x m mm (ix k) = some (M7 (M6 mm g) l) ∧ PR pp' (M7 (M6 mm g) l) ∧ pp'.2.1 = l := by
  intro k
  induction k with
  | zero =>
    intro m pp mm n h1 h2 h3 h4 h5 h6 h7
    obtain ⟨m, rfl⟩ : ∃ n', m = n' + 1 := ⟨m - 1, by omega⟩
    refine ⟨pp, mm.2.2.2.2.2.2.1, mm.2.2.2.2.2.2.2.1, ?_, ?_, ⟨n, by omega, h4, h5, h6, h7⟩, h4.trans h5.symm⟩
    · rw [f_X1_append_L28, if_pos (by decide)]
    · rw [f_X4_put_L83, if_pos (by decide)]
      rfl
  | succ k ih =>
    intro m pp mm n h1 h2 h3 h4 h5 h6 h7
    obtain ⟨m, rfl⟩ : ∃ n', m = n' + 1 := ⟨m - 1, by omega⟩
    have hn : n < 80 := by omega
    have hc := hok k (by omega)
    have hsign : f_X1_addSign pp (nI (ch x k)) = some (P1 (P0 pp (upd pp.1 n (nI (ch x k)))) (nI (n + 1))) := by
      unfold f_X1_addSign
      rw [h4, if_neg (nI_pos (by omega)), if_neg (by rw [show (80 : Int32) = nI 80 from rfl]; exact nI_ge hn (by decide)), ob (x4_wr rfl hn (by decide))]
      show some (P1 _ (pp.2.1 + 1)) = _
      rw [h4, nI_1]
    have hx : ((x.toUInt64 >>> (((8 : Int32) * nI k).toInt64.toUInt64 &&& Int64.toUInt64 63)).toInt64 &&& (255 : Int64)).toInt32 = nI (ch x k) := Option.some.inj (code_e x (j := k) (by omega))
    obtain ⟨pp', g, l, g1, g2, g3, g4⟩ := ih m (P1 (P0 pp (upd pp.1 n (nI (ch x k)))) (nI (n + 1))) (M7 (M6 mm (upd mm.2.2.2.2.2.2.1 n (nI (ch x k)))) (nI (n + 1))) (n + 1) (by omega) (by omega) (by omega) rfl rfl
      (fun i hi => by
        show upd pp.1 n (nI (ch x k)) i = upd mm.2.2.2.2.2.2.1 n (nI (ch x k)) i
        by_cases ci : i = n
        · subst ci; rw [pk_us, pk_us]
        · rw [pk_un ci, pk_un ci]; exact h6 i (by omega))
      (fun i hi => by
        show 33 ≤ (upd pp.1 n (nI (ch x k)) i).toInt ∧ (upd pp.1 n (nI (ch x k)) i).toInt ≤ 126
        by_cases ci : i = n
        · subst ci
          rw [pk_us, nI_i (by omega)]
          omega
        · rw [pk_un ci]; exact h7 i (by omega))
    refine ⟨pp', g, l, ?_, ?_, g3, g4⟩
    · show f_X1_append_L28 x (m + 1) pp (nI k) = _
      rw [f_X1_append_L28, if_neg (nI_pos (by omega)), hx, ob hsign, ix_s, g1]
    · show f_X4_put_L83 x (m + 1) mm (nI k) = _
      rw [f_X4_put_L83, if_neg (nI_pos (by omega)), ob (code_e x (by omega)), h5, ob (x4_wr rfl hn (by decide))]
      show f_X4_put_L83 x m (M7 (M6 mm _) (mm.2.2.2.2.2.2.2.1 + 1)) (nI k + -1) = _
      rw [h5, nI_1, ix_s, g2]
      rfl
theorem J_put : St_put JJ := by
  intro k t hh pp s0 s1 mm a0 hk h
  obtain ⟨_, h1, h2, ⟨o, sz, h3⟩, ⟨n, p1, p2, p3, p4, p5⟩, h5, h6⟩ := id h
  unfold f_X3_put f_X4_put f_X1_signsIn f_X1_append
  obtain ⟨r, r1, r2, r3⟩ := signs_loop mm a0 8 0 2000 a0 (by decide) (by decide) (by rw [Nat.mul_zero, Nat.pow_zero, Nat.div_one]) (fun i hi => absurd hi (Nat.not_lt_zero i))
  rw [nI_0] at r2 r3
  rw [ob r2]
  rcases r3 with ⟨rfl, r4⟩ | ⟨r0, rok, r4⟩
  · exact ⟨(-2, pp), (-2, mm), by rw [if_pos nI_0], r4, rfl, JJ_none hk h⟩
  · rw [if_neg (nI_ne0 r0 (by omega)), r4, if_neg (nI_pos (by omega)), if_neg (by rw [show (8 : Int32) = nI 8 from rfl]; exact nI_nlt (by omega) (by decide)), p2, nI_add]
    unfold putT
    rw [p3, nI_add]
    by_cases c : n + r ≤ 80
    · have hle : nI (n + r) ≤ (80 : Int32) := by rw [show (80 : Int32) = nI 80 from rfl]; exact nI_le c (by decide)
      obtain ⟨pp', g, l, g1, g2, g3, g4⟩ := append_loop a0 r1 rok r 2000 pp mm n (Nat.le_refl r) (by omega) c p2 p3 p4 p5
      rw [← ix_m] at g1 g2
      refine ⟨(l, pp'), (l, M7 (M6 mm g) l), ?_, ?_, rfl, hk, h1.mono (by omega), h2, ⟨o, sz, HK.mono (B := 100 * k) h3 (by omega)⟩, g3, h5.mono (by omega), h6.mono (by omega)⟩
      · rw [if_pos hle, ob g1, ob rfl, if_neg n10, g4]
      · rw [if_pos hle, ob g2]
        rfl
    · have hle : ¬ nI (n + r) ≤ (80 : Int32) := by rw [show (80 : Int32) = nI 80 from rfl]; exact nI_ge (by omega) (by omega)
      exact ⟨(-4, pp), (-4, mm), by rw [if_neg hle, ob rfl, if_pos rfl], by rw [if_neg hle], rfl, JJ_none hk h⟩

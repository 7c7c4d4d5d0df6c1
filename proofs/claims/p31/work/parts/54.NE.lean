/-! the history: what is done and undone; what each change keeps -/
def HS (hh : HH) : Prop := ∃ o sz, o < 7 ∧ sz ≤ 6 ∧ hh.1 = nI o ∧ hh.2.1 = nI sz
def UB (t : TT) (hh : HH) : Prop := ∀ (t2 : TT) (pp : PP), ∃ z t' hh', f_X3_undo t2 hh pp = some (z, t', hh') ∧ ¬ z < 0 ∧ HS hh' ∧ ∀ B u, RT B t u → RT B t' u
theorem ub_of {t r t2 : TT} {h2 : HH} {o sz : Nat} (ho : o < 7) (hs : sz ≤ 5) (e1 : h2.1 = nI o) (e2 : h2.2.1 = nI (sz + 1)) (e3 : h2.2.2 ((o + sz) % 7) = r) (hr : ∀ B u, RT B t u → RT B r u) (pp : PP) : ∃ z t' hh', f_X3_undo t2 h2 pp = some (z, t', hh') ∧ ¬ z < 0 ∧ HS hh' ∧ ∀ B u, RT B t u → RT B t' u := by
  obtain ⟨t', g1, g2⟩ := goBack_s t2 e1 ho e2 hs
  refine ⟨nI sz, t', H2 h2 (nI sz), ?_, nI_pos (by omega), ⟨o, sz, ho, by omega, e1, rfl⟩, fun B u h => g2 B u (by rw [e3]; exact hr B u h)⟩
  unfold f_X3_undo
  rw [ob g1, if_neg n10]
  rfl
theorem chg2 {t : TT} {hh : HH} (h : HS hh) : ∃ h1 h2, f_X0_note hh t = some h1 ∧ HS h1 ∧ HS h2 ∧ UB t h2 ∧ (∀ r, IsE r → f_X0_keepUnlessError h1 r = some (r, h1)) ∧ (∀ r, ¬ IsE r → f_X0_keepUnlessError h1 r = some (r, h2)) := by
  obtain ⟨o, sz, ho, hsz, e1, e2⟩ := h
  have hm : (o + sz) % 7 < 7 := Nat.mod_lt _ (by decide)
  obtain ⟨r, r1, r2⟩ := become_e (hh.2.2 ((o + sz) % 7)) t
  have hn : f_X0_note hh t = some (HU hh ((o + sz) % 7) r) := by
    unfold f_X0_note
    rw [e2, ob (stateAt_e e1 ho (by omega))]
    have hp : (o + sz) % 7 = 0 ∨ (o + sz) % 7 = 1 ∨ (o + sz) % 7 = 2 ∨ (o + sz) % 7 = 3 ∨ (o + sz) % 7 = 4 ∨ (o + sz) % 7 = 5 ∨ (o + sz) % 7 = 6 := by omega
    rcases hp with hp | hp | hp | hp | hp | hp | hp <;> rw [hp] at r1 ⊢
    · rw [if_pos (by decide), ob r1]
    · rw [if_neg (by decide), if_pos (by decide), ob r1]
    · rw [if_neg (by decide), if_neg (by decide), if_pos (by decide), ob r1]
    · rw [if_neg (by decide), if_neg (by decide), if_neg (by decide), if_pos (by decide), ob r1]
    · rw [if_neg (by decide), if_neg (by decide), if_neg (by decide), if_neg (by decide), if_pos (by decide), ob r1]
    · rw [if_neg (by decide), if_neg (by decide), if_neg (by decide), if_neg (by decide), if_neg (by decide), if_pos (by decide), ob r1]
    · rw [if_neg (by decide), if_neg (by decide), if_neg (by decide), if_neg (by decide), if_neg (by decide), if_neg (by decide), if_pos (by decide), ob r1]
  obtain ⟨h1, eh1⟩ : ∃ h1, h1 = HU hh ((o + sz) % 7) r := ⟨_, rfl⟩
  rw [← eh1] at hn
  have q1 : h1.1 = nI o := by rw [eh1]; exact e1
  have q2 : h1.2.1 = nI sz := by rw [eh1]; exact e2
  have q3 : h1.2.2 ((o + sz) % 7) = r := by
    rw [eh1]
    show (if (o + sz) % 7 = (o + sz) % 7 then r else hh.2.2 ((o + sz) % 7)) = r
    rw [if_pos rfl]
  have kE : ∀ x, IsE x → f_X0_keepUnlessError h1 x = some (x, h1) := by
    intro x c
    unfold f_X0_keepUnlessError
    rw [ob (isError_e x), if_pos c, if_neg n10]
  by_cases d : sz = 6
  · subst d
    refine ⟨h1, H1 h1 (nI ((o + 1) % 7)), hn, ⟨o, 6, ho, hsz, q1, q2⟩, ⟨(o + 1) % 7, 6, Nat.mod_lt _ (by decide), hsz, rfl, q2⟩, ?_, kE, ?_⟩
    · intro t2 pp
      refine ub_of (h2 := H1 h1 (nI ((o + 1) % 7))) (o := (o + 1) % 7) (sz := 5) (r := r) (Nat.mod_lt _ (by decide)) (by decide) rfl q2 ?_ r2 pp
      show h1.2.2 (((o + 1) % 7 + 5) % 7) = r
      rw [show ((o + 1) % 7 + 5) % 7 = (o + 6) % 7 from by omega]
      exact q3
    · intro x c
      unfold f_X0_keepUnlessError
      rw [ob (isError_e x), if_neg c, if_pos rfl, if_pos (by rw [q2]; decide)]
      unfold f_X0_placeOf
      rw [q1, nI_1, ob (fm7 (by omega)), ob rfl]
  · refine ⟨h1, H2 h1 (nI (sz + 1)), hn, ⟨o, sz, ho, hsz, q1, q2⟩, ⟨o, sz + 1, ho, by omega, q1, rfl⟩, ?_, kE, ?_⟩
    · intro t2 pp
      exact ub_of (h2 := H2 h1 (nI (sz + 1))) (o := o) (sz := sz) (r := r) ho (by omega) q1 rfl q3 r2 pp
    · intro x c
      unfold f_X0_keepUnlessError
      rw [ob (isError_e x), if_neg c, if_pos rfl, if_neg (by rw [q2, show (6 : Int32) = nI 6 from rfl]; exact nI_ge (by omega) (by decide)), q2, nI_1]
/-- a change of the town, as the outer object does it -/
theorem chg3 {t : TT} {hh : HH} (h : HS hh) {F : Option (Int32 × TT)} {r : Int32} {t' : TT} (hF : F = some (r, t')) : ∃ hh', HS hh' ∧ ((f_X0_note hh t).bind fun x1 => (F.bind fun x3 => ((f_X0_keepUnlessError x1 x3.1).bind fun x5 => some (x5.1, x3.2, x5.2)))) = some (r, t', hh') ∧ (¬ IsE r → UB t hh') := by
  obtain ⟨h1, h2, g1, g2, g3, g4, g5, g6⟩ := chg2 (t := t) h
  by_cases c : IsE r
  · exact ⟨h1, g2, by rw [ob g1, hF, ob rfl, ob (g5 r c)], fun d => absurd c d⟩
  · exact ⟨h2, g3, by rw [ob g1, hF, ob rfl, ob (g6 r c)], fun _ => g4⟩
def TL (u u' : Nat → Int32) (a h b : Int32) : Prop := u' 145 = a ∧ u' 146 = h ∧ u' 147 = b ∧ (∀ j, 148 ≤ j → j ≤ 180 → u' j = u (j - 3)) ∧ ∀ m, m ≤ 12 → u 144 = nI m → u' 144 = nI (min (m + 1) 12)
theorem tell_TL {u u' : Nat → Int32} {m : Nat} (hm : m ≤ 12) (h1 : u 144 = nI m) (a b : Int32) (h : f_X4_tell u a b = some u') : TL u u' a (u 4) b ∧ ∀ j, j < 144 → u' j = u j := by
  have v5 : (if (12 : Int32) ≤ u 144 then some (0 : Int32) else some (1 : Int32)) = some (if 12 ≤ m then 0 else 1) := by
    rw [h1, show (12 : Int32) = nI 12 from rfl]
    by_cases c : 12 ≤ m
    · rw [if_pos (nI_le (by omega) (by omega)), if_pos c]
    · rw [if_neg (nI_ge (by omega) (by omega)), if_neg c]
  have v6 : u 144 + (if 12 ≤ m then 0 else 1) = nI (min (m + 1) 12) := by
    rw [h1]
    by_cases c : 12 ≤ m
    · rw [if_pos c, i_add0]; exact congrArg nI (by omega)
    · rw [if_neg c, nI_1]; exact congrArg nI (by omega)
  obtain ⟨z, z1, z2⟩ := tell_loop a b 33 2000 (upd u 144 (nI (min (m + 1) 12))) (by decide) (by decide)
  have z1' : f_X4_tell_L33 a b 2000 (upd u 144 (nI (min (m + 1) 12))) 180 = some z := z1
  unfold f_X4_tell at h
  rw [ob ms144, ob ms144, ob v5, v6, ob (x4_wr (n := 144) (a := 144) rfl (by decide) (by decide)), ob z1', ob (x4_wr (n := 145) (a := 145) rfl (by decide) (by decide)), ob (x4_rd (n := 4) (a := 4) rfl (by decide) (by decide)), ob (x4_wr (n := 146) (a := 146) rfl (by decide) (by decide)), ob (x4_wr (n := 147) (a := 147) rfl (by decide) (by decide))] at h
  obtain rfl := Option.some.inj h
  refine ⟨⟨?_, ?_, ?_, fun j h1 h2 => ?_, fun m' hm' hm2 => ?_⟩, fun j hj => ?_⟩
  · rw [pk_un (by decide), pk_un (by decide), pk_us]
  · rw [pk_un (by decide), pk_us, pk_un (by decide), z2 4, if_neg (by omega), pk_un (by decide)]
  · rw [pk_us]
  · rw [pk_un (by omega), pk_un (by omega), pk_un (by omega), z2 j, if_pos (by omega), pk_un (by omega)]
  · obtain rfl : m' = m := nI_inj (by omega) (by omega) (hm2.symm.trans h1)
    rw [pk_un (by decide), pk_un (by decide), pk_un (by decide), z2 144, if_neg (by omega), pk_us]
  · rw [pk_un (by omega), pk_un (by omega), pk_un (by omega), z2 j, if_neg (by omega), pk_un (by omega)]
theorem Bk3_un {z : Nat → Int32} {k n : Nat} {w v : Int32} (h4 : n ≠ 48 + 8 * k + 4) (h5 : n ≠ 48 + 8 * k + 5) (h7 : n ≠ 48 + 8 * k + 7) : Bk3 z k w v n = z n := ((pk_un h7).trans (pk_un h5)).trans (pk_un h4)
theorem Bk2_un {z : Nat → Int32} {k n : Nat} {v : Int32} (h4 : n ≠ 48 + 8 * k + 4) (h6 : n ≠ 48 + 8 * k + 6) : Bk2 z k v n = z n := (pk_un h6).trans (pk_un h4)
theorem chg_un {z : Nat → Int32} {x f n : Nat} {b : Int32} (h : n ≠ 6 + 4 * x + f) : chg z x f b n = z n := pk_un h
theorem oth_un {z : Nat → Int32} {x n : Nat} (h : n ≠ 6 + 4 * x + 3) : oth z x n = z n := pk_un h
section TD
variable {B : Nat} {t : TT} {u : Nat → Int32} {np nq : Nat}
theorem XI_step {u' : Nat → Int32} {np' nq' : Nat} (h : XI u np nq) (hp : ∀ k, k < np' → pv u' k 2 ≠ nI k) (hq : ∀ k, k < nq' → QE u' k) (hs : ∀ k, k < nq → qv u k 4 = 1 → k < nq' ∧ qv u' k 4 = 1 ∧ qv u' k 7 = qv u k 7) (he : ∀ j, 144 ≤ j → j ≤ 180 → u' j = u j) : XI u' np' nq' := by
  obtain ⟨_, _, m, hm, h1, hv⟩ := h
  refine ⟨hp, hq, m, hm, (he 144 (by omega) (by omega)).trans h1, fun r hr => ?_⟩
  have e : ∀ w, w < 3 → ev u' r w = ev u r w := fun w hw => he _ (by omega) (by omega)
  obtain ⟨v1, v2⟩ := hv r hr
  unfold VE
  rw [e 0 (by decide), e 1 (by decide), e 2 (by decide)]
  refine ⟨v1, fun c => ?_⟩
  obtain ⟨k, k1, k2, k3, k4⟩ := v2 c
  obtain ⟨s1, s2, s3⟩ := hs k k1 k3
  exact ⟨k, s1, k2, s2, s3.trans k4⟩
theorem XI_tell {u0 u' : Nat → Int32} {np' nq' : Nat} {a b hr : Int32} (h : XI u np nq) (he0 : ∀ j, 144 ≤ j → j ≤ 180 → u0 j = u j) (T : TL u0 u' a hr b) (hp : ∀ k, k < np' → pv u' k 2 ≠ nI k) (hq : ∀ k, k < nq' → QE u' k) (hs : ∀ k, k < nq → qv u k 4 = 1 → k < nq' ∧ qv u' k 4 = 1 ∧ qv u' k 7 = qv u k 7)
    (ha : 0 ≤ a.toInt) (hk : a = 1 → ∃ k, k < nq' ∧ b = nI k ∧ qv u' k 4 = 1 ∧ qv u' k 7 = hr) : XI u' np' nq' := by
  obtain ⟨_, _, m, hm, h1, hv⟩ := h
  obtain ⟨t1, t2, t3, t4, t5⟩ := T
  refine ⟨hp, hq, min (m + 1) 12, by omega, t5 m hm ((he0 144 (by omega) (by omega)).trans h1), fun r hr' => ?_⟩
  by_cases c : r = 0
  · subst c
    have e0 : ev u' 0 0 = a := t1
    have e1 : ev u' 0 1 = hr := t2
    have e2 : ev u' 0 2 = b := t3
    unfold VE
    rw [e0, e1, e2]
    exact ⟨ha, hk⟩
  · have e : ∀ w, w < 3 → ev u' r w = ev u (r - 1) w := fun w hw => by
      show u' (145 + 3 * r + w) = u (145 + 3 * (r - 1) + w)
      rw [t4 _ (by omega) (by omega), show 145 + 3 * r + w - 3 = 145 + 3 * (r - 1) + w from by omega]
      exact he0 _ (by omega) (by omega)
    obtain ⟨v1, v2⟩ := hv (r - 1) (by omega)
    unfold VE
    rw [e 0 (by decide), e 1 (by decide), e 2 (by decide)]
    refine ⟨v1, fun c => ?_⟩
    obtain ⟨k, k1, k2, k3, k4⟩ := v2 c
    obtain ⟨s1, s2, s3⟩ := hs k k1 k3
    exact ⟨k, s1, k2, s2, s3.trans k4⟩
theorem QE_cg {u' : Nat → Int32} {k : Nat} (h : QE u k) (e : ∀ w, w < 8 → qv u' k w = qv u k w) : QE u' k := by
  unfold QE
  rw [e 0 (by decide), e 1 (by decide), e 4 (by decide), e 5 (by decide), e 6 (by decide)]
  exact h
/-- nothing but settings, the hour, prides, tacts and oaths is changed -/
theorem XI_cg {u' : Nat → Int32} (h : XI u np nq) (hp : ∀ k, k < np → pv u' k 2 = pv u k 2) (hq : ∀ j, 48 ≤ j → j ≤ 180 → u' j = u j) (hnq : nq ≤ 12) : XI u' np nq :=
  XI_step h (fun k hk => by rw [hp k hk]; exact h.1 k hk) (fun k hk => QE_cg (h.2.1 k hk) (fun w hw => hq _ (by omega) (by omega))) (fun k hk h4 => ⟨hk, (hq _ (by omega) (by omega)).trans h4, hq _ (by omega) (by omega)⟩) (fun j h1 h2 => hq j (by omega) h2)
theorem XI_chg {x f : Nat} {b : Int32} (h : XI u np nq) (hnp : np ≤ 10) (hnq : nq ≤ 12) (hx : x < 10) (hf : f < 2) : XI (chg u x f b) np nq :=
  XI_cg h (fun k hk => by
    show upd u (6 + 4 * x + f) _ (6 + 4 * k + 2) = _
    exact pk_un (by omega)) (fun j h1 h2 => pk_un (by omega)) hnq
theorem XI_oth {x : Nat} (h : XI u np nq) (hnp : np ≤ 10) (hnq : nq ≤ 12) (hx : x < 10) : XI (oth u x) np nq :=
  XI_cg h (fun k hk => by
    show upd u (6 + 4 * x + 3) _ (6 + 4 * k + 2) = _
    exact pk_un (by omega)) (fun j h1 h2 => pk_un (by omega)) hnq
theorem u144 (h : XI u np nq) : ∃ m, m ≤ 12 ∧ u 144 = nI m := by
  obtain ⟨_, _, m, hm, h1, _⟩ := h
  exact ⟨m, hm, h1⟩
/-- what a change leaves -/
def GO (B : Nat) (H : Int) (t' : TT) : Prop := ∃ u' np' nq', RT B t' u' ∧ US u' ∧ UN u' np' nq' ∧ XI u' np' nq' ∧ 4 ≤ np' ∧ (u' 4).toInt ≤ H
def MR (r : Int32) : Prop := r = -5 ∨ r = -4 ∨ r = -6 ∨ ¬ r < 0
theorem GO.mono {B B' : Nat} {H H' : Int} {t' : TT} (h : GO B H t') (hb : B ≤ B') (hh : H ≤ H') : GO B' H' t' := by
  obtain ⟨u', np', nq', h1, h2, h3, h4, h5, h6⟩ := h
  exact ⟨u', np', nq', h1.mono hb, h2, h3, h4, h5, by omega⟩
theorem settle2_end (hR : RT B t u) (hB : B < 1000000) (hS : US u) (hN : UN u np nq) (hX : XI u np nq) {k : Nat} (hk : k < nq) (h0 : qv u k 4 = 0) {w : Nat} (hw : w < 5) : ∃ r t' t1 t2 t3, f_X2_write t 92 (nI k) 1 = some t1 ∧ f_X2_write t1 104 (nI k) (nI w) = some t2 ∧ f_X2_write t2 116 (nI k) t2.1 = some t3 ∧ f_X2_addEvent t3 1 (nI k) = some t' ∧ f_X2_quarrelsWith t' 92 0 = some r ∧ ¬ r < 0 ∧
    ∃ u', RT (B + 1) t' u' ∧ US u' ∧ UN u' np nq ∧ XI u' np nq ∧ u' 4 = u 4 := by
  have hq := hN.2.1
  have hp := hN.1
  obtain ⟨r, t', u', t1, t2, t3, y1, y2, y3, y4, y5, y6, _, R4, S4, np', nq', N4⟩ := settle_end hR hB hS hN hk (nI w)
  obtain ⟨m, hm, h1⟩ := u144 hX
  obtain ⟨T, low⟩ := tell_TL (u := Bk3 u k (nI w) (u 4)) hm (by rw [Bk3_un (by omega) (by omega) (by omega)]; exact h1) 1 (nI k) y6
  obtain rfl : np' = np := by
    have h5 := low 5 (by decide)
    rw [Bk3_un (by omega) (by omega) (by omega), hN.2.2.1] at h5
    exact nI_inj (by have := N4.1; omega) (by omega) (N4.2.2.1.symm.trans h5)
  obtain rfl : nq' = nq := by
    have h5 := low 47 (by decide)
    rw [Bk3_un (by omega) (by omega) (by omega), hN.2.2.2.1] at h5
    exact nI_inj (by have := N4.2.1; omega) (by omega) (N4.2.2.2.1.symm.trans h5)
  have e4 : Bk3 u k (nI w) (u 4) 4 = u 4 := by rw [Bk3_un (by omega) (by omega) (by omega)]
  rw [e4] at T
  have eq : ∀ i f, i < 12 → f < 8 → qv u' i f = if i = k ∧ f = 7 then u 4 else if i = k ∧ f = 5 then nI w else if i = k ∧ f = 4 then 1 else qv u i f := by
    intro i f hi hf
    show u' (48 + 8 * i + f) = _
    rw [low _ (by omega)]
    show qv (Bk3 u k (nI w) (u 4)) i f = _
    rw [qv_u (by decide) hf, qv_u (by decide) hf, qv_u (by decide) hf]
  have oth8 : ∀ i f, i < 12 → f < 8 → i ≠ k → qv u' i f = qv u i f := by
    intro i f hi hf hik
    rw [eq i f hi hf, if_neg (fun c => hik c.1), if_neg (fun c => hik c.1), if_neg (fun c => hik c.1)]
  have k4 : qv u' k 4 = 1 := by rw [eq k 4 (by omega) (by decide), if_neg (fun c => by omega), if_neg (fun c => by omega), if_pos ⟨rfl, rfl⟩]
  have k5 : qv u' k 5 = nI w := by rw [eq k 5 (by omega) (by decide), if_neg (fun c => by omega), if_pos ⟨rfl, rfl⟩]
  have k7 : qv u' k 7 = u 4 := by rw [eq k 7 (by omega) (by decide), if_pos ⟨rfl, rfl⟩]
  have k6 : qv u' k 6 = qv u k 6 := by rw [eq k 6 (by omega) (by decide), if_neg (fun c => by omega), if_neg (fun c => by omega), if_neg (fun c => by omega)]
  refine ⟨r, t', t1, t2, t3, y1, y2, y3, y4, y5, ?_, u', R4, S4, N4, ?_, (low 4 (by decide)).trans e4⟩
  · have h9 := qw_e R4 N4 (f := 4) (fun k hk => rq4 R4 hk) 0
    rw [fd_cnt] at h9
    obtain rfl := Option.some.inj (y5.symm.trans h9)
    exact nI_pos (by have := cnt_le (fun k => decide (qv u' k 4 = 0)) nq'; omega)
  · refine XI_tell hX (fun j h1 h2 => ?_) T (fun i hi => ?_) (fun i hi => ?_) (fun i hi h4 => ?_) (by decide) (fun _ => ⟨k, hk, rfl, k4, k7⟩)
    · rw [Bk3_un (by omega) (by omega) (by omega)]
    · show u' (6 + 4 * i + 2) ≠ _
      rw [low _ (by omega), Bk3_un (by omega) (by omega) (by omega)]
      exact hX.1 i hi
    · by_cases c : i = k
      · subst c
        refine Or.inr (Or.inl ⟨k4, by rw [k5, nI_toInt (by omega)]; omega, ?_⟩)
        rw [k6]
        rcases hX.2.1 i hi with ⟨_, _, d⟩ | ⟨s, _⟩ | ⟨s, _⟩
        · exact d
        · rw [h0] at s; exact absurd s (by decide)
        · rw [h0] at s; exact absurd s (by decide)
      · exact QE_cg (hX.2.1 i hi) (fun f hf => oth8 i f (by omega) hf c)
    · have c : i ≠ k := fun c => by subst c; rw [h0] at h4; exact absurd h4 (by decide)
      exact ⟨hi, (oth8 i 4 (by omega) (by decide) c).trans h4, oth8 i 7 (by omega) (by decide) c⟩
theorem op2_settle (hR : RT B t u) (hB : B < 1000000) (hS : US u) (hN : UN u np nq) (hX : XI u np nq) (h4 : 4 ≤ np) {k w : Nat} (hk : k < nq) (hw : w < 5) : ∃ r t', f_X2_settleBy t (nI k) (nI w) = some (r, t') ∧ MR r ∧ GO (B + 1) (u 4).toInt t' := by
  have hp := hN.1
  have hq := hN.2.1
  have hk12 : k < 12 := by omega
  have G0 : GO (B + 1) (u 4).toInt t := ⟨u, np, nq, hR.mono (Nat.le_succ B), hS, hN, hX, h4, Int.le_refl _⟩
  obtain ⟨W, W1⟩ := waysOf2_e hR hS hN hk
  unfold f_X2_settleBy
  rw [ob (hasQ1 hR hN hk), if_neg n10, if_neg (nI_pos (by omega)), if_pos (show nI w < 5 from nI_lt hw (by decide)), ob W1]
  by_cases c : nI W.1 &&& ((1 : Int32) <<< (nI w &&& 31)) = 0
  · exact ⟨-5, t, by rw [if_pos c], Or.inl rfl, G0⟩
  · have h0 : qv u k 4 = 0 := Classical.byContradiction (fun d => by
      have hz := Option.some.inj (W1.symm.trans (not_open2 hR hk12 d))
      rw [hz] at c
      have hz5 : ∀ w : Fin 5, (0 : Int32) &&& ((1 : Int32) <<< (nI w.1 &&& 31)) = 0 := by decide +kernel
      exact c (hz5 ⟨w, hw⟩))
    rw [if_neg c]
    by_cases w0 : w = 0
    · subst w0
      obtain ⟨⟨i, j, hi, hj, hij, e0, e1⟩, _⟩ := hN.2.2.2.2.2 k hk
      obtain ⟨t0, v0, R0⟩ := addPoints_e hR (k := i) 0 (a := 4) rfl (by omega) (by decide) (-1)
      have x0 : qv (chg u i 0 (-1)) k 4 = 0 := (pk_un (by omega)).trans h0
      obtain ⟨r, t', t1, t2, t3, y1, y2, y3, y4, y5, y6, u', R4, S4, N4, X4, e4⟩ := settle2_end R0 hB (US_chg hS (by omega) (by decide) _) (UN_chg hN (by omega) (by decide) _) (XI_chg hX hp hq (by omega) (by decide)) hk x0 hw
      refine ⟨r, t', ?_, Or.inr (Or.inr (Or.inr y6)), u', np, nq, R4, S4, N4, X4, h4, ?_⟩
      · rw [if_pos nI_0, ob (rq0 hR hk12), e0, ob v0, ob rfl, ob y1, ob y2, ob y3, ob y4, ob y5]
      · rw [e4, chg_un (by omega)]; exact Int.le_refl _
    · have w0' : ¬ nI w = 0 := nI_ne0 (by omega) (by omega)
      by_cases w1 : w = 1
      · subst w1
        obtain ⟨i, j, x, y, hi, hj, e0, e1, hx, hy, ex, ey⟩ := settle_secs hR hS hN hk W1 c
        obtain ⟨t0, v0, R0⟩ := addPoints_e hR (k := x) 1 (a := 14) rfl (by omega) (by decide) 1
        have S0 := US_chg hS (k := x) (w := 1) (by omega) (by decide) 1
        have N0 := UN_chg hN (k := x) (w := 1) (by omega) (by decide) 1
        have e1' : qv (chg u x 1 1) k 1 = nI j := by
          show upd u (6 + 4 * x + 1) _ (48 + 8 * k + 1) = _
          rw [pk_un (by omega), ← e1]
        have ey' : pv (chg u x 1 1) j 2 = nI y := by
          show upd u (6 + 4 * x + 1) _ (6 + 4 * j + 2) = _
          rw [pk_un (by omega), ← ey]
        obtain ⟨t00, v00, R00⟩ := addPoints_e R0 (k := y) 1 (a := 14) rfl (by omega) (by decide) 1
        have x0 : qv (chg (chg u x 1 1) y 1 1) k 4 = 0 := ((pk_un (by omega)).trans (pk_un (by omega))).trans h0
        obtain ⟨r, t', t1, t2, t3, y1, y2, y3, y4, y5, y6, u', R4, S4, N4, X4, e4⟩ := settle2_end R00 hB (US_chg S0 (by omega) (by decide) _) (UN_chg N0 (by omega) (by decide) _) (XI_chg (XI_chg hX hp hq (x := x) (f := 1) (b := 1) (by omega) (by decide)) hp hq (x := y) (f := 1) (b := 1) (by omega) (by decide)) hk x0 hw
        refine ⟨r, t', ?_, Or.inr (Or.inr (Or.inr y6)), u', np, nq, R4, S4, N4, X4, h4, ?_⟩
        · rw [if_neg w0', if_pos (show nI 1 = 1 from rfl), ob (rq0 hR hk12), e0, ob (rdp2 hR (by omega)), ex, ob v0, ob (rq1 R0 hk12), e1', ob (rdp2 R0 (by omega)), ey', ob v00, ob rfl, ob y1, ob y2, ob y3, ob y4, ob y5]
        · rw [e4, chg_un (by omega), chg_un (by omega)]; exact Int.le_refl _
      · have w1' : ¬ nI w = 1 := fun d => w1 ((nI_eq (b := 1) (by omega) (by decide)).1 d)
        obtain ⟨r, t', t1, t2, t3, y1, y2, y3, y4, y5, y6, u', R4, S4, N4, X4, e4⟩ := settle2_end hR hB hS hN hX hk h0 hw
        refine ⟨r, t', ?_, Or.inr (Or.inr (Or.inr y6)), u', np, nq, R4, S4, N4, X4, h4, ?_⟩
        · rw [if_neg w0', if_neg w1', ob rfl, ob y1, ob y2, ob y3, ob y4, ob y5]
        · rw [e4]; exact Int.le_refl _
theorem op2_fight (hR : RT B t u) (hB : B < 1000000) (hS : US u) (hN : UN u np nq) (hX : XI u np nq) (h4 : 4 ≤ np) {k : Nat} (hk : k < nq) : ∃ r t', f_X2_duel t (nI k) = some (r, t') ∧ MR r ∧ GO (B + 1) (u 4).toInt t' := by
  have hp := hN.1
  have hq := hN.2.1
  have hk12 : k < 12 := by omega
  have G0 : GO (B + 1) (u 4).toInt t := ⟨u, np, nq, hR.mono (Nat.le_succ B), hS, hN, hX, h4, Int.le_refl _⟩
  obtain ⟨W, W1⟩ := waysOf2_e hR hS hN hk
  unfold f_X2_duel
  rw [ob (hasQ1 hR hN hk), if_neg n10, ob W1, ob (vy_e hR hk12 _)]
  by_cases c : vy u (nI W.1) k = 0
  · have h0 : qv u k 4 = 0 := Classical.byContradiction (fun d => absurd ((show vy u (nI W.1) k = 1 from if_neg d).symm.trans c) (by decide))
    obtain ⟨i, j, x, y, hi, hj, hij, e0, e1, hxy, v1, _⟩ := winner_e hR hN hk
    have hx : x < np := by rcases hxy with ⟨rfl, _⟩ | ⟨rfl, _⟩ <;> assumption
    have hy : y < np := by rcases hxy with ⟨_, rfl⟩ | ⟨_, rfl⟩ <;> assumption
    have hv17 : (if nI x = nI i then some (nI j) else some (nI i)) = some (nI y) := by
      rcases hxy with ⟨rfl, rfl⟩ | ⟨rfl, rfl⟩
      · rw [if_pos rfl]
      · rw [if_neg (fun d => hij ((nI_eq (by omega) (by omega)).1 d).symm)]
    obtain ⟨t1, q1, R1⟩ := addPoints_e hR (k := x) 0 (a := 4) rfl (by omega) (by decide) 1
    obtain ⟨t2, q2, R2⟩ := addPoints_e R1 (k := y) 0 (a := 4) rfl (by omega) (by decide) (-2)
    have S2 := US_chg (US_chg hS (k := x) (w := 0) (by omega) (by decide) 1) (k := y) (w := 0) (by omega) (by decide) (-2)
    have N2 := UN_chg (UN_chg hN (k := x) (w := 0) (by omega) (by decide) 1) (k := y) (w := 0) (by omega) (by decide) (-2)
    have X2 := XI_chg (XI_chg hX hp hq (x := x) (f := 0) (b := 1) (by omega) (by decide)) hp hq (x := y) (f := 0) (b := -2) (by omega) (by decide)
    obtain ⟨t3, q3, R3⟩ := bind_e R2 (k := i) (by omega)
    obtain ⟨t4, q4, R4⟩ := bind_e R3 (k := j) (by omega)
    have S4 := US_oth (US_oth S2 (k := i) (by omega)) (k := j) (by omega)
    have N4 := UN_oth (US_oth S2 (k := i) (by omega)) (UN_oth S2 N2 hi) hj
    have X4 := XI_oth (XI_oth X2 hp hq (x := i) (by omega)) hp hq (x := j) (by omega)
    obtain ⟨t5, q5, R5⟩ := x2_wq R4 (k := k) 4 (a := 92) rfl hk12 (by decide) 2
    obtain ⟨t6, q6, R6⟩ := x2_wq R5 (k := k) 6 (a := 128) rfl hk12 (by decide) (nI x)
    obtain ⟨v, ev4⟩ : ∃ v, v = oth (oth (chg (chg u x 0 1) y 0 (-2)) i) j := ⟨_, rfl⟩
    rw [← ev4] at S4 N4 X4 R6
    have hvq : ∀ n, 46 ≤ n → v n = u n := fun n hn => by rw [ev4, oth_un (by omega), oth_un (by omega), chg_un (by omega), chg_un (by omega)]
    have hv4 : v 4 = u 4 := by rw [ev4, oth_un (by omega), oth_un (by omega), chg_un (by omega), chg_un (by omega)]
    have S6 : US (Bk2 v k (nI x)) := US_u (US_u S4 (by omega) (by omega)) (by omega) (by omega)
    have N6 : UN (Bk2 v k (nI x)) np nq := UN_q (UN_q N4 hk12 (by decide) (fun _ => ⟨by decide, fun c => by omega, fun c => by omega, fun c => by omega⟩)) hk12 (by decide) (fun _ => ⟨by decide, fun c => by omega, fun c => by omega, fun c => by omega⟩)
    obtain ⟨t', u', y1, y2, R7, y3⟩ := tell_e R6 hB 2 (nI k)
    obtain ⟨S7, N7⟩ := UI_tell S6 N6 y3
    obtain ⟨m, hm, h1⟩ := u144 X4
    obtain ⟨T, low⟩ := tell_TL (u := Bk2 v k (nI x)) hm (by rw [Bk2_un (by omega) (by omega)]; exact h1) 2 (nI k) y2
    have eq : ∀ i f, i < 12 → f < 8 → qv u' i f = if i = k ∧ f = 6 then nI x else if i = k ∧ f = 4 then 2 else qv v i f := by
      intro i f hi hf
      show u' (48 + 8 * i + f) = _
      rw [low _ (by omega)]
      show qv (Bk2 v k (nI x)) i f = _
      rw [qv_u (by decide) hf, qv_u (by decide) hf]
    have oth8 : ∀ i f, i < 12 → f < 8 → i ≠ k → qv u' i f = qv v i f := by
      intro i f hi hf hik
      rw [eq i f hi hf, if_neg (fun c => hik c.1), if_neg (fun c => hik c.1)]
    have k4 : qv u' k 4 = 2 := by rw [eq k 4 hk12 (by decide), if_neg (fun c => by omega), if_pos ⟨rfl, rfl⟩]
    have k6 : qv u' k 6 = nI x := by rw [eq k 6 hk12 (by decide), if_pos ⟨rfl, rfl⟩]
    have kk : ∀ f, f < 8 → f ≠ 4 → f ≠ 6 → qv u' k f = qv v k f := fun f hf f4 f6 => by rw [eq k f hk12 hf, if_neg (fun c => f6 c.2), if_neg (fun c => f4 c.2)]
    have vh0 : qv v k 4 = 0 := (hvq _ (by omega)).trans h0
    refine ⟨nI x, t', ?_, Or.inr (Or.inr (Or.inr (nI_pos (by omega)))), u', np, nq, R7, S7, N7, ?_, h4, ?_⟩
    · rw [if_pos c, ob (rq0 hR hk12), ob (rq1 hR hk12), e0, e1, ob v1, ob q1, ob hv17, ob q2, ob q3, ob q4, ob q5, ob q6, ob y1]
    · refine XI_tell X4 (fun j h1 h2 => ?_) T (fun i hi => ?_) (fun i hi => ?_) (fun i hi h4 => ?_) (by decide) (fun c => absurd c (by decide))
      · rw [Bk2_un (by omega) (by omega)]
      · show u' (6 + 4 * i + 2) ≠ _
        rw [low _ (by omega), Bk2_un (by omega) (by omega)]
        exact X4.1 i hi
      · by_cases d : i = k
        · subst d
          refine Or.inr (Or.inr ⟨k4, ?_, ?_⟩)
          · rw [kk 5 (by decide) (by decide) (by decide)]
            rcases X4.2.1 i hi with ⟨_, s, _⟩ | ⟨s, _⟩ | ⟨s, _⟩
            · exact s
            · rw [vh0] at s; exact absurd s (by decide)
            · rw [vh0] at s; exact absurd s (by decide)
          · rw [k6, kk 0 (by decide) (by decide) (by decide), kk 1 (by decide) (by decide) (by decide), show qv v i 0 = qv u i 0 from hvq _ (by omega), show qv v i 1 = qv u i 1 from hvq _ (by omega), e0, e1]
            rcases hxy with ⟨rfl, _⟩ | ⟨rfl, _⟩
            · exact Or.inl rfl
            · exact Or.inr rfl
        · exact QE_cg (X4.2.1 i hi) (fun f hf => oth8 i f (by omega) hf d)
      · have d : i ≠ k := fun c => by subst c; rw [vh0] at h4; exact absurd h4 (by decide)
        exact ⟨hi, (oth8 i 4 (by omega) (by decide) d).trans h4, oth8 i 7 (by omega) (by decide) d⟩
    · rw [low 4 (by decide), Bk2_un (by omega) (by omega), hv4]; exact Int.le_refl _
  · exact ⟨-5, t, by rw [if_neg c], Or.inl rfl, G0⟩
theorem op2_swear (hR : RT B t u) (hB : B < 1000000) (hS : US u) (hN : UN u np nq) (hX : XI u np nq) (h4 : 4 ≤ np) {k : Nat} (hk : k < np) : ∃ r t', f_X2_takeOath t (nI k) = some (r, t') ∧ MR r ∧ GO (B + 1) (u 4).toInt t' := by
  have hp := hN.1
  have hq := hN.2.1
  have hk10 : k < 10 := by omega
  have G0 : GO (B + 1) (u 4).toInt t := ⟨u, np, nq, hR.mono (Nat.le_succ B), hS, hN, hX, h4, Int.le_refl _⟩
  have x1 : f_X2_oathLeft t (nI k) = some (ol u k) := oathLeft_e hR hk10
  unfold f_X2_takeOath
  rw [ob (hasP1 hR hN hk), if_neg n10, ob x1]
  by_cases c : ol u k ≤ 0
  · obtain ⟨t1, q1, R1⟩ := bind_e hR hk10
    obtain ⟨t', u', y1, y2, R2, y3⟩ := tell_e R1 hB 3 (nI k)
    obtain ⟨S2, N2⟩ := UI_tell (US_oth hS hk10) (UN_oth hS hN hk) y3
    have X1 := XI_oth hX hp hq hk10
    obtain ⟨m, hm, h1⟩ := u144 X1
    obtain ⟨T, low⟩ := tell_TL hm h1 3 (nI k) y2
    refine ⟨pv u' k 3, t', ?_, Or.inr (Or.inr (Or.inr ?_)), u', np, nq, R2, S2, N2, ?_, h4, ?_⟩
    · rw [if_pos c, ob q1, ob y1, ob (rdp3 R2 hk10)]
    · rw [ti_lt, ti_0]
      have := (N2.2.2.2.2.1 k hk).2.2.2
      omega
    · exact XI_tell X1 (fun j _ _ => rfl) T (fun i hi => by rw [show pv u' i 2 = pv (oth u k) i 2 from low _ (by omega)]; exact X1.1 i hi) (fun i hi => QE_cg (X1.2.1 i hi) (fun f hf => low _ (by omega))) (fun i hi h4 => ⟨hi, (low _ (by omega)).trans h4, low _ (by omega)⟩) (by decide) (fun c => absurd c (by decide))
    · rw [low 4 (by decide), oth_un (by omega)]; exact Int.le_refl _
  · exact ⟨-5, t, by rw [if_neg c], Or.inl rfl, G0⟩
theorem op2_second (hR : RT B t u) (hS : US u) (hN : UN u np nq) (hX : XI u np nq) (h4 : 4 ≤ np) {i j : Nat} (hi : i < np) (hj : j < np) (hij : i ≠ j) : ∃ r t', f_X2_takeSecond t (nI i) (nI j) = some (r, t') ∧ MR r ∧ GO (B + 1) (u 4).toInt t' := by
  have hp := hN.1
  have hq := hN.2.1
  unfold f_X2_takeSecond
  obtain ⟨t1, w1, R1⟩ := x2_wp hR (k := i) 2 (a := 24) rfl (by omega) (by decide) (nI j)
  refine ⟨pv u i 2, t1, ?_, ?_, upd u (6 + 4 * i + 2) (nI j), np, nq, R1.mono (Nat.le_succ B), US_u hS (by omega) (by omega), UN_p hN (by omega) (by decide) (fun _ => ⟨fun d => by omega, fun d => by omega, fun _ => Or.inr ⟨j, hj, rfl⟩, fun d => by omega⟩), ?_, h4, ?_⟩
  · rw [ob (hasP1 hR hN hi), if_neg n10, ob (hasP1 hR hN hj), if_neg n10, if_neg (fun c => hij (nI_inj (by omega) (by omega) c)), ob (rdp2 hR (by omega)), ob w1]
  · rcases (hN.2.2.2.2.1 i hi).2.2.1 with h | ⟨s, hs, h⟩
    · exact Or.inr (Or.inr (Or.inl h))
    · exact Or.inr (Or.inr (Or.inr (by rw [h]; exact nI_pos (by omega))))
  · refine XI_step hX (fun k hk => ?_) (fun k hk => QE_cg (hX.2.1 k hk) (fun w hw => pk_un (by omega))) (fun k hk h4 => ⟨hk, (pk_un (by omega)).trans h4, pk_un (by omega)⟩) (fun j h1 h2 => pk_un (by omega))
    rw [pv_u (by decide) (by decide)]
    by_cases c : k = i
    · subst c
      rw [if_pos ⟨rfl, rfl⟩]
      exact fun c => hij (nI_inj (by omega) (by omega) c).symm
    · rw [if_neg (fun d => c d.1)]
      exact hX.1 k hk
  · rw [pk_un (by omega)]; exact Int.le_refl _
theorem op2_allow (hR : RT B t u) (hS : US u) (hN : UN u np nq) (hX : XI u np nq) (h4 : 4 ≤ np) {w : Nat} (hw : w < 5) : ∃ r t', f_X2_allowOrBar t (nI w) = some (r, t') ∧ ¬ r < 0 ∧ GO (B + 1) (u 4).toInt t' := by
  have hq := hN.2.1
  obtain ⟨al, ea⟩ := decide_u46 hS
  have hx : 0 ≤ (nI al.1 ^^^ ((1 : Int32) <<< (nI w &&& 31))).toInt ∧ (nI al.1 ^^^ ((1 : Int32) <<< (nI w &&& 31))).toInt ≤ 31 := al_xor al ⟨w, hw⟩
  unfold f_X2_allowOrBar
  refine ⟨nI al.1 ^^^ ((1 : Int32) <<< (nI w &&& 31)), T1 t (nI al.1 ^^^ ((1 : Int32) <<< (nI w &&& 31))), ?_, ?_, upd u 46 (nI al.1 ^^^ ((1 : Int32) <<< (nI w &&& 31))), np, nq, (RT_allowed hR _).mono (Nat.le_succ B), ?_, UN_cg hN (fun j _ _ hj => pk_un hj), XI_cg hX (fun k hk => pk_un (by omega)) (fun j h1 h2 => pk_un (by omega)) hq, h4, ?_⟩
  · rw [if_neg (nI_pos (by omega)), if_pos (show nI w < 5 from nI_lt hw (by decide)), hR.2.1, ea]
    rfl
  · rw [ti_lt, ti_0]; omega
  · unfold US
    rw [pk_un (by decide), pk_un (by decide), pk_un (by decide), pk_un (by decide), pk_un (by decide), pk_us]
    exact ⟨hS.1, hS.2.1, hS.2.2.1, hS.2.2.2.1, hS.2.2.2.2.1, hx⟩
  · rw [pk_un (by decide)]; exact Int.le_refl _
theorem op2_set (hR : RT B t u) (hS : US u) (hN : UN u np nq) (hX : XI u np nq) (h4 : 4 ≤ np) {n : Nat} (hn : n < 4) {b : Int32} (h1 : (lowB n).toInt ≤ b.toInt) (h2 : b.toInt ≤ (highB n).toInt) : ∃ r t', f_X2_changeSetting t (nI n) b = some (r, t') ∧ ¬ r < 0 ∧ GO (B + 1) (u 4).toInt t' := by
  have hq := hN.2.1
  have e4 : (4 : Int32) = nI 4 := rfl
  obtain ⟨t', w1, w2⟩ := x2_ws hR hn b
  unfold f_X2_changeSetting
  have hn4 : n = 0 ∨ n = 1 ∨ n = 2 ∨ n = 3 := by omega
  refine ⟨u n, t', ?_, ?_, upd u n b, np, nq, w2.mono (Nat.le_succ B), ?_, UN_cg hN (fun j hj _ _ => pk_un (by omega)), XI_cg hX (fun k hk => pk_un (by omega)) (fun j h1 h2 => pk_un (by omega)) hq, h4, ?_⟩
  · rw [if_neg (nI_pos (by omega)), e4, if_neg (nI_ge hn (by decide)), if_pos (nI_lt hn (by decide)), ob (x4_rd rfl hn (by decide)), if_neg (by rw [ti_lt]; omega), ob (x4_rd rfl hn (by decide)), if_pos (by rw [ti_le]; omega), ob (x2_s hR rfl hn), ob w1]
  · rw [ti_lt, ti_0]
    rcases hn4 with rfl | rfl | rfl | rfl
    · have := hS.1; omega
    · have := hS.2.1; omega
    · have := hS.2.2.1; omega
    · have := hS.2.2.2.1; omega
  · unfold US
    rcases hn4 with rfl | rfl | rfl | rfl
    · rw [show (lowB 0).toInt = 1 from by decide] at h1
      rw [show (highB 0).toInt = 48 from by decide] at h2
      rw [pk_us, pk_un (by decide), pk_un (by decide), pk_un (by decide), pk_un (by decide), pk_un (by decide)]
      exact ⟨by omega, hS.2⟩
    · rw [show (lowB 1).toInt = 0 from by decide] at h1
      rw [show (highB 1).toInt = 99 from by decide] at h2
      rw [pk_un (by decide), pk_us, pk_un (by decide), pk_un (by decide), pk_un (by decide), pk_un (by decide)]
      exact ⟨hS.1, by omega, hS.2.2⟩
    · rw [show (lowB 2).toInt = 1 from by decide] at h1
      rw [show (highB 2).toInt = 200 from by decide] at h2
      rw [pk_un (by decide), pk_un (by decide), pk_us, pk_un (by decide), pk_un (by decide), pk_un (by decide)]
      exact ⟨hS.1, hS.2.1, by omega, hS.2.2.2⟩
    · rw [show (lowB 3).toInt = 0 from by decide] at h1
      rw [show (highB 3).toInt = 400 from by decide] at h2
      rw [pk_un (by decide), pk_un (by decide), pk_un (by decide), pk_us, pk_un (by decide), pk_un (by decide)]
      exact ⟨hS.1, hS.2.1, hS.2.2.1, by omega, hS.2.2.2.2⟩
  · rw [pk_un (by omega)]; exact Int.le_refl _
/-- hours pass -/
theorem US_pass (hS : US u) {a : Int32} (h1 : 0 ≤ (u 4 + a).toInt) (h2 : (u 4 + a).toInt ≤ 9999) : US (upd u 4 (u 4 + a)) := by
  unfold US
  rw [pk_un (by decide), pk_un (by decide), pk_un (by decide), pk_un (by decide), pk_us, pk_un (by decide)]
  exact ⟨hS.1, hS.2.1, hS.2.2.1, hS.2.2.2.1, ⟨h1, h2⟩, hS.2.2.2.2.2⟩
theorem op2_pass (hR : RT B t u) (hS : US u) (hN : UN u np nq) (hX : XI u np nq) {a : Nat} (h1 : 1 ≤ a) (h2 : a ≤ 99) (h3 : (u 4).toInt + a ≤ 9999) {hh : HH} (hH : HS hh) (pp : PP) : ∃ r hh', f_X3_pass t hh pp (nI a) = some (r, T0 t (u 4 + nI a), hh') ∧ ¬ r < 0 ∧ HS hh' ∧ UB t hh' ∧ RT B (T0 t (u 4 + nI a)) (upd u 4 (u 4 + nI a)) ∧ US (upd u 4 (u 4 + nI a)) ∧ UN (upd u 4 (u 4 + nI a)) np nq ∧ XI (upd u 4 (u 4 + nI a)) np nq ∧ (u 4 + nI a).toInt = (u 4).toInt + a := by
  have hq := hN.2.1
  have s4 := hS.2.2.2.2.1
  have ea : (nI a).toInt = (a : Int) := nI_toInt (by omega)
  have es : (u 4 + nI a).toInt = (u 4).toInt + a := by
    have := ti_add (x := u 4) (y := nI a) (by rw [ea]; omega) (by rw [ea]; omega)
    rw [ea] at this
    exact this
  have R1 := RT_hour hR (u 4 + nI a)
  have S1 := US_pass hS (a := nI a) (by omega) (by omega)
  have N1 : UN (upd u 4 (u 4 + nI a)) np nq := UN_cg hN (fun j hj _ _ => pk_un (by omega))
  have X1 : XI (upd u 4 (u 4 + nI a)) np nq := XI_cg hX (fun k hk => pk_un (by omega)) (fun j h1 h2 => pk_un (by omega)) hq
  obtain ⟨g1, g2, k1, k2, k3, k4, k5, k6⟩ := chg2 (t := t) hH
  have hmo : f_X2_moveOn t (nI a) = some (u 4 + nI a, T0 t (u 4 + nI a)) := by
    unfold f_X2_moveOn
    rw [if_neg (by rw [show (1 : Int32) = nI 1 from rfl]; exact nI_nlt h1 (by omega)), if_pos (by rw [show (99 : Int32) = nI 99 from rfl]; exact nI_le h2 (by decide)), hR.1, if_pos (by rw [ti_le, es, show (9999 : Int32).toInt = 9999 from by decide]; exact h3)]
  have hne : ¬ IsE (u 4 + nI a) := fun c => c.1 (by rw [ti_le, ti_0]; omega)
  obtain ⟨Wf, hW⟩ := ways_fun R1 S1 N1
  have hd := due2_e R1 N1 hW
  have hb := bc_fd (w := fun k => decide (vy (upd u 4 (u 4 + nI a)) (Wf k) k = 0)) hq
  have h0 := fd_pos (w := fun k => decide (vy (upd u 4 (u 4 + nI a)) (Wf k) k = 0)) hq
  rw [← sz_fd hq] at h0
  refine ⟨sz16 (fd (fun k => decide (vy (upd u 4 (u 4 + nI a)) (Wf k) k = 0)) gS 0 nq 0), g2, ?_, ?_, k3, k4, R1, S1, N1, X1, es⟩
  · unfold f_X3_pass
    rw [ob k1, ob hmo, ob (k6 _ hne), ob (isError_e _), if_neg hne, if_pos rfl, ob hd, ob hb]
  · rw [ti_lt, ti_0]
    have := ti_le.1 h0
    rw [ti_0] at this
    omega
theorem op2_person (hR : RT B t u) (hS : US u) (hN : UN u np nq) (hX : XI u np nq) {a b : Nat} (ha : a ≤ 9) (hb : b ≤ 9) : (np = 10 ∧ f_X2_addPerson t (nI a) (nI b) = some (-4, t)) ∨ ∃ t' u', f_X2_addPerson t (nI a) (nI b) = some (nI np, t') ∧ RT B t' u' ∧ US u' ∧ UN u' (np + 1) nq ∧ XI u' (np + 1) nq ∧ u' 4 = u 4 := by
  have hp := hN.1
  have hq := hN.2.1
  have pts : ∀ x : Nat, x ≤ 9 → f_X2_isPoints (nI x) = some 1 := by
    intro x hx
    unfold f_X2_isPoints
    rw [if_neg (nI_pos (by omega)), if_neg (by rw [show (9 : Int32) = nI 9 from rfl]; exact nI_nlt hx (by decide))]
  obtain ⟨r, t', u', h1, h2, R', I'⟩ := op_person hR hS hN (nI a) (nI b)
  by_cases c : np = 10
  · refine Or.inl ⟨c, ?_⟩
    unfold f_X2_addPerson
    rw [ob (pts a ha), if_neg n10, ob (pts b hb), if_neg n10, hR.2.2.1, hN.2.2.1, if_neg (by rw [c]; decide)]
  · have c' : np < 10 := by omega
    unfold f_X4_comes at h2
    obtain ⟨u4, eu4⟩ : ∃ u4, u4 = upd (upd (upd (upd u (6 + 4 * np + 0) (nI a)) (6 + 4 * np + 1) (nI b)) (6 + 4 * np + 2) (-6)) (6 + 4 * np + 3) 0 := ⟨_, rfl⟩
    have e5 : u4 5 = nI np := by rw [eu4, pk_un (by omega), pk_un (by omega), pk_un (by omega), pk_un (by omega)]; exact hN.2.2.1
    have in9 : ∀ x : Nat, x ≤ 9 → f_X4_in (nI x) 0 9 = some 1 := fun x hx => by rw [← isPoints_e]; exact pts x hx
    have hres : some (nI np, upd u4 5 (nI (np + 1))) = some (r, u') := by
      rw [← h2, ob (in9 a ha), if_neg n10, ob (in9 b hb), if_neg n10, ob ms5, hN.2.2.1, if_neg (by rw [show (10 : Int32) = nI 10 from rfl, nI_eq (by omega) (by decide)]; omega), ob ms5, hN.2.2.1, x4_pj, ob (x4_wr (n := 6 + 4 * np + 0) (a := nI (6 + 4 * np)) rfl (by omega) (by decide)),
        show nI (6 + 4 * np) + (1 : Int32) = nI (6 + 4 * np + 1) from nI_1 _, show nI (6 + 4 * np) + (2 : Int32) = nI (6 + 4 * np + 2) from nI_add _ 2, show nI (6 + 4 * np) + (3 : Int32) = nI (6 + 4 * np + 3) from nI_add _ 3,
        ob (x4_wr (n := 6 + 4 * np + 1) rfl (by omega) (by decide)), ob (x4_wr (n := 6 + 4 * np + 2) rfl (by omega) (by decide)), ob (x4_wr (n := 6 + 4 * np + 3) rfl (by omega) (by decide))]
      show _ = ((rd (upd (upd (upd (upd u (6 + 4 * np + 0) (nI a)) (6 + 4 * np + 1) (nI b)) (6 + 4 * np + 2) (-6)) (6 + 4 * np + 3) 0) 181 5).bind fun x20 => _)
      rw [← eu4, ob (x4_rd (n := 5) (a := 5) rfl (by decide) (by decide)), e5, nI_1, ob (x4_wr (n := 5) (a := 5) rfl (by decide) (by decide)), ob (x4_rd (n := 5) (a := 5) rfl (by decide) (by decide)), pk_us, nI_pred]
    have hres2 := Option.some.inj hres
    have er : nI np = r := congrArg Prod.fst hres2
    have eu : upd u4 5 (nI (np + 1)) = u' := congrArg Prod.snd hres2
    obtain ⟨S', np', nq', N'⟩ := I'
    have g : ∀ j, ¬ (6 + 4 * np ≤ j ∧ j ≤ 6 + 4 * np + 3) → j ≠ 5 → u' j = u j := by
      intro j hj hj5
      rw [← eu, pk_un hj5, eu4, pk_un (by omega), pk_un (by omega), pk_un (by omega), pk_un (by omega)]
    obtain rfl : np' = np + 1 := nI_inj (by have := N'.1; omega) (by omega) (N'.2.2.1.symm.trans (by rw [← eu, pk_us]))
    obtain rfl : nq' = nq := nI_inj (by have := N'.2.1; omega) (by omega) (N'.2.2.2.1.symm.trans ((g 47 (by omega) (by decide)).trans hN.2.2.2.1))
    refine Or.inr ⟨t', u', by rw [er]; exact h1, R', S', N', ?_, g 4 (by omega) (by decide)⟩
    refine XI_step hX (fun k hk => ?_) (fun k hk => QE_cg (hX.2.1 k hk) (fun w hw => g _ (by omega) (by omega))) (fun k hk h4 => ⟨hk, (g _ (by omega) (by omega)).trans h4, g _ (by omega) (by omega)⟩) (fun j h1 h2 => g j (by omega) (by omega))
    by_cases d : k = np
    · subst d
      have e2 : pv u' k 2 = -6 := by
        show u' (6 + 4 * k + 2) = -6
        rw [← eu, pk_un (by omega), eu4, pk_un (by omega), pk_us]
      rw [e2]
      exact fun c => nn6 k (by omega) c.symm
    · rw [show pv u' k 2 = pv u k 2 from g _ (by omega) (by omega)]
      exact hX.1 k (by omega)
def NQ (u u' : Nat → Int32) (nq i j : Nat) (r0 : Int32) : Prop := (∀ k, k < nq → ∀ w, w < 8 → qv u' k w = qv u k w) ∧ qv u' nq 0 = nI i ∧ qv u' nq 1 = nI j ∧ qv u' nq 2 = r0 ∧ qv u' nq 3 = u 4 ∧ qv u' nq 4 = 0 ∧ (∀ n, n ≤ 46 → u' n = u n) ∧ ev u' 0 0 = 0 ∧ ev u' 0 2 = nI nq ∧ ∃ m, 0 < m ∧ m ≤ 12 ∧ u' 144 = nI m
theorem err0 (hR : RT B t u) (hN : UN u np nq) {i j : Nat} (hi : i < np) (hj : j < np) (hij : i ≠ j) {r0 : Int32} (hr : 1 ≤ r0.toInt ∧ r0.toInt ≤ 9) : f_X2_errorOfInsult t (nI i) (nI j) r0 = some 0 := by
  have hp := hN.1
  have hk : f_X2_isRank r0 = some 1 := by
    unfold f_X2_isRank
    rw [if_neg (by rw [ti_lt, ti_1]; omega), if_neg (by rw [ti_lt, ti_9]; omega)]
  unfold f_X2_errorOfInsult
  rw [ob (hasP1 hR hN hi), if_neg n10, ob (hasP1 hR hN hj), if_neg n10, if_neg (fun c => hij (nI_inj (by omega) (by omega) c)), ob hk, if_neg n10]
theorem op2_insult (hR : RT B t u) (hB : B < 1000000) (hS : US u) (hN : UN u np nq) (hX : XI u np nq) {i j : Nat} (hi : i < np) (hj : j < np) (hij : i ≠ j) {r0 : Int32} (hr : 1 ≤ r0.toInt ∧ r0.toInt ≤ 9) :
    f_X2_addQuarrel t (nI i) (nI j) r0 = some (-5, t) ∨ f_X2_addQuarrel t (nI i) (nI j) r0 = some (-4, t) ∨
    ∃ t' u', f_X2_addQuarrel t (nI i) (nI j) r0 = some (nI nq, t') ∧ RT (B + 1) t' u' ∧ US u' ∧ UN u' np (nq + 1) ∧ XI u' np (nq + 1) ∧ NQ u u' nq i j r0 := by
  have hp := hN.1
  have hq := hN.2.1
  unfold f_X2_addQuarrel f_X2_haveOpenQuarrel
  rw [ob (err0 hR hN hi hj hij hr), if_pos rfl]
  have hl := open_loop hR hN (nI i) (nI j) r0 nq 0 2000 (by omega) (by omega)
  rw [nI_0] at hl
  rcases hl with ⟨l1, _⟩ | ⟨l1, _⟩
  · exact Or.inl (by rw [ob l1, if_neg n10])
  rw [ob l1, if_pos rfl, hR.2.2.2.1, hN.2.2.2.1]
  by_cases c : nq < 12
  · rw [if_pos (by rw [show (12 : Int32) = nI 12 from rfl]; exact nI_lt c (by decide))]
    obtain ⟨t1, w1, R1⟩ := x2_wq hR 0 (a := 44) rfl c (by decide) (nI i)
    obtain ⟨t2, w2, R2⟩ := x2_wq R1 1 (a := 56) rfl c (by decide) (nI j)
    obtain ⟨t3, w3, R3⟩ := x2_wq R2 2 (a := 68) rfl c (by decide) r0
    obtain ⟨t4, w4, R4⟩ := x2_wq R3 3 (a := 80) rfl c (by decide) (u 4)
    obtain ⟨t5, w5, R5⟩ := x2_wq R4 4 (a := 92) rfl c (by decide) 0
    obtain ⟨t6, w6, R6⟩ := x2_wq R5 5 (a := 104) rfl c (by decide) (-6)
    obtain ⟨t7, w7, R7⟩ := x2_wq R6 7 (a := 116) rfl c (by decide) 0
    obtain ⟨t8, w8, R8⟩ := x2_wq R7 6 (a := 128) rfl c (by decide) (-6)
    have no : ∀ w v, nq < nq → QFw w v := fun w v d => absurd d (Nat.lt_irrefl _)
    have N6 := UN_q (UN_q (UN_q (UN_q (UN_q (UN_q hN c (w := 0) (v := nI i) (by decide) (no _ _)) c (w := 1) (v := nI j) (by decide) (no _ _)) c (w := 2) (v := r0) (by decide) (no _ _)) c (w := 3) (v := u 4) (by decide) (no _ _)) c (w := 4) (v := 0) (by decide) (no _ _)) c (w := 5) (v := -6) (by decide) (no _ _)
    have N8 := UN_q (UN_q N6 c (w := 7) (v := 0) (by decide) (no _ _)) c (w := 6) (v := -6) (by decide) (no _ _)
    obtain ⟨u8, eu8⟩ : ∃ u8, u8 = upd (upd (upd (upd (upd (upd (upd (upd u (48 + 8 * nq + 0) (nI i)) (48 + 8 * nq + 1) (nI j)) (48 + 8 * nq + 2) r0) (48 + 8 * nq + 3) (u 4)) (48 + 8 * nq + 4) 0) (48 + 8 * nq + 5) (-6)) (48 + 8 * nq + 7) 0) (48 + 8 * nq + 6) (-6) := ⟨_, rfl⟩
    rw [← eu8] at R8 N8
    have out : ∀ n, ¬ (48 + 8 * nq ≤ n ∧ n ≤ 48 + 8 * nq + 7) → u8 n = u n := by
      intro n hn
      rw [eu8, pk_un (by omega), pk_un (by omega), pk_un (by omega), pk_un (by omega), pk_un (by omega), pk_un (by omega), pk_un (by omega), pk_un (by omega)]
    have S8 : US u8 := US_cg hS (fun j hj => out j (by omega))
    have e47 : u8 47 = nI nq := N8.2.2.2.1
    have e47' : t8.2.2.2.1 = nI nq := R8.2.2.2.1.trans e47
    have R9 := RT_quarrels R8 (nI (nq + 1))
    obtain ⟨t9, u9, y1, y2, R10, y3⟩ := tell_e R9 hB 0 (nI nq)
    obtain ⟨m, hm, h1⟩ := u144 hX
    obtain ⟨T, _⟩ := tell_TL hm (by rw [pk_un (by omega), out 144 (by omega)]; exact h1) 0 (nI nq) y2
    have e14 : t3.1 = u 4 := by
      rw [R3.1, pk_un (by omega), pk_un (by omega), pk_un (by omega)]
    have old : ∀ n, n < 144 → n ≠ 47 → ¬ (48 + 8 * nq ≤ n ∧ n ≤ 48 + 8 * nq + 7) → u9 n = u n := by
      intro n h1 h2 h3
      rw [y3 n h1, pk_un h2, out n h3]
    have z0 : qv u9 nq 0 = nI i := by
      show u9 (48 + 8 * nq + 0) = _
      rw [y3 _ (by omega), pk_un (by omega), eu8, pk_un (by omega), pk_un (by omega), pk_un (by omega), pk_un (by omega), pk_un (by omega), pk_un (by omega), pk_un (by omega), pk_us]
    have z1 : qv u9 nq 1 = nI j := by
      show u9 (48 + 8 * nq + 1) = _
      rw [y3 _ (by omega), pk_un (by omega), eu8, pk_un (by omega), pk_un (by omega), pk_un (by omega), pk_un (by omega), pk_un (by omega), pk_un (by omega), pk_us]
    have z2 : qv u9 nq 2 = r0 := by
      show u9 (48 + 8 * nq + 2) = _
      rw [y3 _ (by omega), pk_un (by omega), eu8, pk_un (by omega), pk_un (by omega), pk_un (by omega), pk_un (by omega), pk_un (by omega), pk_us]
    have z3 : qv u9 nq 3 = u 4 := by
      show u9 (48 + 8 * nq + 3) = _
      rw [y3 _ (by omega), pk_un (by omega), eu8, pk_un (by omega), pk_un (by omega), pk_un (by omega), pk_un (by omega), pk_us]
    have z4 : qv u9 nq 4 = 0 := by
      show u9 (48 + 8 * nq + 4) = _
      rw [y3 _ (by omega), pk_un (by omega), eu8, pk_un (by omega), pk_un (by omega), pk_un (by omega), pk_us]
    have z5 : qv u9 nq 5 = -6 := by
      show u9 (48 + 8 * nq + 5) = _
      rw [y3 _ (by omega), pk_un (by omega), eu8, pk_un (by omega), pk_un (by omega), pk_us]
    have z6 : qv u9 nq 6 = -6 := by
      show u9 (48 + 8 * nq + 6) = _
      rw [y3 _ (by omega), pk_un (by omega), eu8, pk_us]
    have z7 : qv u9 nq 7 = 0 := by
      show u9 (48 + 8 * nq + 7) = _
      rw [y3 _ (by omega), pk_un (by omega), eu8, pk_un (by omega), pk_us]
    have qk : ∀ k, k < nq → ∀ w, w < 8 → qv u9 k w = qv u k w := fun k hk w hw => old _ (by omega) (by omega) (by omega)
    refine Or.inr (Or.inr ⟨t9, u9, ?_, R10, ?_, ⟨hp, by omega, ?_, ?_, fun k hk => ?_, fun k hk => ?_⟩, ?_, qk, z0, z1, z2, z3, z4, fun n hn => old n (by omega) (by omega) (by omega), T.1, T.2.2.1, min (m + 1) 12, by omega, by omega, T.2.2.2.2 m hm (by rw [pk_un (by omega), out 144 (by omega)]; exact h1)⟩)
    · rw [ob w1, ob w2, ob w3, e14, ob w4, ob w5, ob w6, ob w7, ob w8, e47', nI_1, ob y1]
    · exact US_cg hS (fun j hj => old j (by omega) (by omega) (by omega))
    · rw [old 5 (by omega) (by omega) (by omega)]; exact hN.2.2.1
    · rw [y3 47 (by decide), pk_us]
    · exact PI_cg (hN.2.2.2.2.1 k hk) (Nat.le_refl np) (fun w hw => old _ (by omega) (by omega) (by omega))
    · by_cases d : k < nq
      · exact QI_cg (hN.2.2.2.2.2 k d) (Nat.le_refl np) (fun w hw => qk k d w hw)
      · obtain rfl : k = nq := by omega
        unfold QI
        rw [z0, z1, z2, z3, z7]
        exact ⟨⟨i, j, hi, hj, hij, rfl, rfl⟩, hr, hS.2.2.2.2.1, by decide⟩
    · refine XI_tell hX (fun j h1 h2 => by rw [pk_un (by omega), out j (by omega)]) T (fun k hk => by rw [show pv u9 k 2 = pv u k 2 from old _ (by omega) (by omega) (by omega)]; exact hX.1 k hk) (fun k hk => ?_) (fun k hk h4 => ⟨by omega, (qk k hk 4 (by decide)).trans h4, qk k hk 7 (by decide)⟩) (by decide) (fun c => absurd c (by decide))
      by_cases d : k < nq
      · exact QE_cg (hX.2.1 k d) (fun w hw => qk k d w hw)
      · obtain rfl : k = nq := by omega
        exact Or.inl ⟨z4, z5, z6⟩
  · obtain rfl : nq = 12 := by omega
    exact Or.inr (Or.inl (by rw [if_neg (by decide)]))
end TD

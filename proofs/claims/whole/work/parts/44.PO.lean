/-! the relation of both objects, and the steps that change the town -/
def PR (pp : PP) (mm : MM) : Prop := ∃ n : Nat, n ≤ 80 ∧ pp.2.1 = nI n ∧ mm.2.2.2.2.2.2.2.1 = nI n ∧ (∀ i, i < n → pp.1 i = mm.2.2.2.2.2.2.1 i) ∧ ∀ i, i < n → 33 ≤ (pp.1 i).toInt ∧ (pp.1 i).toInt ≤ 126
def SR (B : Nat) (x : Option TT) (mm : MM) (j : Nat) : Prop := match x with
  | none => mm.2.2.2.2.2.1 j = 0
  | some v => mm.2.2.2.2.2.1 j = 1 ∧ RT B v (blk mm.2.2.2.2.1 j) ∧ UI (blk mm.2.2.2.2.1 j)
def JJ (k : Nat) (t : TT) (hh : HH) (pp : PP) (s0 s1 : Option TT) (mm : MM) : Prop :=
  k ≤ 512 ∧ RT (100 * k) t mm.1 ∧ UI mm.1 ∧ (∃ o sz, HK (100 * k) hh mm o sz) ∧ PR pp mm ∧ SR (100 * k) s0 mm 0 ∧ SR (100 * k) s1 mm 1
theorem SR.mono {B B' : Nat} {x : Option TT} {mm : MM} {j : Nat} (h : SR B x mm j) (hb : B ≤ B') : SR B' x mm j := by
  cases x with
  | none => exact h
  | some v => exact ⟨h.1, h.2.1.mono hb, h.2.2⟩
theorem SR.cg {B : Nat} {x : Option TT} {mm mm' : MM} {j : Nat} (h : SR B x mm j) (hk : mm'.2.2.2.2 = mm.2.2.2.2) : SR B x mm' j := by
  cases x with
  | none =>
    show mm'.2.2.2.2.2.1 j = 0
    rw [hk]; exact h
  | some v =>
    show mm'.2.2.2.2.2.1 j = 1 ∧ RT B v (blk mm'.2.2.2.2.1 j) ∧ UI (blk mm'.2.2.2.2.1 j)
    rw [hk]; exact h
theorem PR.cg {pp : PP} {mm mm' : MM} (h : PR pp mm) (hk : mm'.2.2.2.2 = mm.2.2.2.2) : PR pp mm' := by
  unfold PR
  rw [hk]
  exact h
theorem JJ_none {k : Nat} {t : TT} {hh : HH} {pp : PP} {s0 s1 : Option TT} {mm : MM} (hk : k < 512) (h : JJ k t hh pp s0 s1 mm) : JJ (k + 1) t hh pp s0 s1 mm := by
  obtain ⟨_, h1, h2, ⟨o, sz, h3⟩, h4, h5, h6⟩ := h
  exact ⟨hk, h1.mono (by omega), h2, ⟨o, sz, h3.mono (by omega)⟩, h4, h5.mono (by omega), h6.mono (by omega)⟩
theorem J_none : St_none JJ := fun k t hh pp s0 s1 mm hk h => JJ_none hk h
theorem J_of : St_of JJ := by
  intro k t hh pp s0 s1 mm a0 a1 hk h
  obtain ⟨_, h1, ⟨hS, np, nq, hN⟩, _⟩ := id h
  obtain ⟨r, r1, r2⟩ := st_of h1 hS hN hh pp a0 a1
  exact ⟨r, r1, r2, JJ_none hk h⟩
theorem J_quarrel : St_quarrel JJ := by
  intro k t hh pp s0 s1 mm a0 a1 hk h
  obtain ⟨_, h1, ⟨hS, np, nq, hN⟩, _⟩ := id h
  obtain ⟨r, r1, r2⟩ := st_quarrel h1 hS hN hh pp a0 a1
  exact ⟨r, r1, r2, JJ_none hk h⟩
theorem J_record : St_record JJ := by
  intro k t hh pp s0 s1 mm a0 a1 hk h
  obtain ⟨_, h1, ⟨hS, np, nq, hN⟩, _⟩ := id h
  obtain ⟨r, r1, r2⟩ := st_record (by omega) h1 hh pp a0 a1
  exact ⟨r, r1, r2, JJ_none hk h⟩
theorem J_pressing : St_pressing JJ := by
  intro k t hh pp s0 s1 mm a0 hk h
  obtain ⟨_, h1, ⟨hS, np, nq, hN⟩, _⟩ := id h
  obtain ⟨r, r1, r2⟩ := st_pressing h1 hS hN hh pp a0
  exact ⟨r, r1, r2, JJ_none hk h⟩
theorem J_insults : St_insults JJ := by
  intro k t hh pp s0 s1 mm a0 hk h
  obtain ⟨_, h1, ⟨hS, np, nq, hN⟩, _⟩ := id h
  obtain ⟨r, r1, r2⟩ := st_insults h1 hN hh pp a0
  exact ⟨r, r1, r2, JJ_none hk h⟩
theorem J_count : St_count JJ := by
  intro k t hh pp s0 s1 mm a0 hk h
  obtain ⟨_, h1, ⟨hS, np, nq, hN⟩, ⟨o, sz, h3⟩, ⟨n, p1, p2, p3, p4⟩, _⟩ := id h
  obtain ⟨r, r1, r2⟩ := st_count h1 hS hN (hh := hh) (pp := pp) (mm := mm) rfl (p2.trans p3.symm) (h3.2.2.2.1.trans h3.2.2.2.2.1.symm) a0
  exact ⟨r, r1, r2, JJ_none hk h⟩
theorem J_why : St_why JJ := by
  intro k t hh pp s0 s1 mm a0 hk h
  obtain ⟨_, h1, ⟨hS, np, nq, hN⟩, _⟩ := id h
  obtain ⟨r, r1, r2⟩ := st_why h1 hS hN hh pp a0
  exact ⟨r, r1, r2, JJ_none hk h⟩
theorem J_firstWay : St_firstWay JJ := by
  intro k t hh pp s0 s1 mm a0 hk h
  obtain ⟨_, h1, ⟨hS, np, nq, hN⟩, _⟩ := id h
  obtain ⟨r, r1, r2⟩ := st_firstWay h1 hS hN hh pp a0
  exact ⟨r, r1, r2, JJ_none hk h⟩
theorem J_opensIn : St_opensIn JJ := by
  intro k t hh pp s0 s1 mm a0 hk h
  obtain ⟨_, h1, ⟨hS, np, nq, hN⟩, _⟩ := id h
  obtain ⟨r, r1, r2⟩ := st_opensIn h1 hS hN hh pp a0
  exact ⟨r, r1, r2, JJ_none hk h⟩
theorem J_dueIn : St_dueIn JJ := by
  intro k t hh pp s0 s1 mm a0 hk h
  obtain ⟨_, h1, ⟨hS, np, nq, hN⟩, _⟩ := id h
  obtain ⟨r, r1, r2⟩ := st_dueIn h1 hS hN hh pp a0
  exact ⟨r, r1, r2, JJ_none hk h⟩
theorem J_ifInsulted : St_ifInsulted JJ := by
  intro k t hh pp s0 s1 mm a0 a1 a2 hk h
  obtain ⟨_, h1, ⟨hS, np, nq, hN⟩, _⟩ := id h
  obtain ⟨r, r1, r2⟩ := st_ifInsulted h1 hS hN hh pp a0 a1 a2
  exact ⟨r, r1, r2, JJ_none hk h⟩
theorem J_ifFought : St_ifFought JJ := by
  intro k t hh pp s0 s1 mm a0 hk h
  obtain ⟨_, h1, ⟨hS, np, nq, hN⟩, _⟩ := id h
  obtain ⟨r, r1, r2⟩ := st_ifFought h1 hN hh pp a0
  exact ⟨r, r1, r2, JJ_none hk h⟩
/-- noting and putting aside -/
theorem noted {B : Nat} {t : TT} {hh : HH} {mm : MM} {o sz : Nat} (h1 : RT B t mm.1) (h2 : UI mm.1) (h3 : HK B hh mm o sz) :
    ∃ hh' mm', f_X0_note hh t = some hh' ∧ f_X4_putAside mm = some mm' ∧ HK B hh' mm' o sz ∧ mm'.1 = mm.1 ∧ mm'.2.2 = mm.2.2 ∧ ∀ u : Nat → Int32, (∀ j, j < 181 → u j = mm'.2.1 j) → RT B (hh'.2.2 ((o + sz) % 7)) u ∧ UI u := by
  obtain ⟨hh', n1, n2, n3⟩ := note_e (t := t) h3
  refine ⟨hh', M1 mm (cpy mm.2.1 mm.1 0 0 181), n1, putAside_e mm, n2, rfl, rfl, fun u hu => ?_⟩
  have e : ∀ j, j < 181 → u j = mm.1 j := fun j hj => by
    rw [hu j hj]
    show cpy mm.2.1 mm.1 0 0 181 j = _
    rw [cpy_in (by omega) (by omega)]
    exact congrArg mm.1 (by omega)
  exact ⟨RT_u (n3 _ h1) e, UI_u h2 e⟩
theorem HK_row {B : Nat} {hh : HH} {mm : MM} {o sz : Nat} (h : HK B hh mm o sz) (v : Nat → Int32) : HK B hh (M0 mm v) o sz := h
/-- a change: noted, done, kept unless it fails -/
theorem chg_e {k : Nat} {t : TT} {hh : HH} {pp : PP} {s0 s1 : Option TT} {mm : MM} (hk : k < 512) (h : JJ k t hh pp s0 s1 mm) {F2 : Option (Int32 × TT)} {F4 : (Nat → Int32) → Option (Int32 × (Nat → Int32))}
    (hop : ∃ r t' u', F2 = some (r, t') ∧ F4 mm.1 = some (r, u') ∧ RT (100 * k + 100) t' u' ∧ UI u') :
    ∃ (r : Int32 × TT × HH) (z : Int32 × MM), ((f_X0_note hh t).bind fun x1 => (F2.bind fun x3 => ((f_X0_keepUnlessError x1 x3.1).bind fun x5 => some (x5.1, x3.2, x5.2)))) = some r ∧
      ((f_X4_putAside mm).bind fun x1 => ((F4 x1.1).bind fun x3 => ((f_X4_end (M0 x1 x3.2) x3.1).bind fun x5 => some (x5.1, x5.2)))) = some z ∧ r.1 = z.1 ∧ JJ (k + 1) r.2.1 r.2.2 pp s0 s1 z.2 := by
  obtain ⟨_, h1, h2, ⟨o, sz, h3⟩, h4, h5, h6⟩ := h
  obtain ⟨r, t', u', o1, o2, o3, o4⟩ := hop
  obtain ⟨hh', mm', n1, n2, n3, n4, n5, n6⟩ := noted h1 h2 h3
  obtain ⟨hh2, mm2, o', sz', q1, q2, q3, q4, q5⟩ := end_e (HK_row n3 u') n6 r
  refine ⟨(r, t', hh2), (r, mm2), ?_, ?_, rfl, hk, ?_, ?_, ⟨o', sz', q3.mono (by omega)⟩, ?_, ?_, ?_⟩
  · rw [ob n1, ob o1, ob q1]
  · rw [ob n2, n4, ob o2, ob q2]
  · show RT _ t' mm2.1
    rw [q4]
    exact o3.mono (by omega)
  · show UI mm2.1
    rw [q4]
    exact o4
  · exact h4.cg (q5.trans (congrArg (fun z => z.2.2) n5))
  · exact (h5.cg (q5.trans (congrArg (fun z => z.2.2) n5))).mono (by omega)
  · exact (h6.cg (q5.trans (congrArg (fun z => z.2.2) n5))).mono (by omega)
theorem wk {B B' : Nat} {F2 : Option (Int32 × TT)} {F4 : Option (Int32 × (Nat → Int32))} (hb : B ≤ B') (h : ∃ r t' u', F2 = some (r, t') ∧ F4 = some (r, u') ∧ RT B t' u' ∧ UI u') : ∃ r t' u', F2 = some (r, t') ∧ F4 = some (r, u') ∧ RT B' t' u' ∧ UI u' := by
  obtain ⟨r, t', u', h1, h2, h3, h4⟩ := h
  exact ⟨r, t', u', h1, h2, h3.mono hb, h4⟩
theorem J_person : St_person JJ := by
  intro k t hh pp s0 s1 mm a0 a1 hk h
  obtain ⟨_, h1, ⟨hS, np, nq, hN⟩, _⟩ := id h
  unfold f_X3_person f_X4_person
  exact chg_e hk h (F2 := f_X2_addPerson t a0 a1) (F4 := fun u => f_X4_comes u a0 a1) (wk (by omega) (op_person h1 hS hN a0 a1))
theorem J_second : St_second JJ := by
  intro k t hh pp s0 s1 mm a0 a1 hk h
  obtain ⟨_, h1, ⟨hS, np, nq, hN⟩, _⟩ := id h
  unfold f_X3_second f_X4_second
  exact chg_e hk h (F2 := f_X2_takeSecond t a0 a1) (F4 := fun u => f_X4_takes u a0 a1) (wk (by omega) (op_second h1 hS hN a0 a1))
theorem J_allow : St_allow JJ := by
  intro k t hh pp s0 s1 mm a0 hk h
  obtain ⟨_, h1, ⟨hS, np, nq, hN⟩, _⟩ := id h
  unfold f_X3_allow f_X4_allow
  exact chg_e hk h (F2 := f_X2_allowOrBar t a0) (F4 := fun u => f_X4_turns u a0) (wk (by omega) (op_allow h1 hS hN a0))
theorem J_insult : St_insult JJ := by
  intro k t hh pp s0 s1 mm a0 a1 a2 hk h
  obtain ⟨_, h1, ⟨hS, np, nq, hN⟩, _⟩ := id h
  unfold f_X3_insult f_X4_insult
  exact chg_e hk h (F2 := f_X2_addQuarrel t a0 a1 a2) (F4 := fun u => f_X4_offends u a0 a1 a2) (wk (by omega) (op_insult h1 (by omega) hS hN a0 a1 a2))
theorem J_settle : St_settle JJ := by
  intro k t hh pp s0 s1 mm a0 a1 hk h
  obtain ⟨_, h1, ⟨hS, np, nq, hN⟩, _⟩ := id h
  unfold f_X3_settle f_X4_settle
  exact chg_e hk h (F2 := f_X2_settleBy t a0 a1) (F4 := fun u => f_X4_settles u a0 a1) (wk (by omega) (op_settle h1 (by omega) hS hN a0 a1))
theorem J_fight : St_fight JJ := by
  intro k t hh pp s0 s1 mm a0 hk h
  obtain ⟨_, h1, ⟨hS, np, nq, hN⟩, _⟩ := id h
  unfold f_X3_fight f_X4_fight
  exact chg_e hk h (F2 := f_X2_duel t a0) (F4 := fun u => f_X4_fights u a0) (wk (by omega) (op_fight h1 (by omega) hS hN a0))
theorem J_swear : St_swear JJ := by
  intro k t hh pp s0 s1 mm a0 hk h
  obtain ⟨_, h1, ⟨hS, np, nq, hN⟩, _⟩ := id h
  unfold f_X3_swear f_X4_swear
  exact chg_e hk h (F2 := f_X2_takeOath t a0) (F4 := fun u => f_X4_swears u a0) (wk (by omega) (op_swear h1 (by omega) hS hN a0))
theorem end_irr {B : Nat} {hh : HH} {r : Int32} (h : ¬ IsE r) : ∃ hh2, ∀ x : Int32, ¬ IsE x → f_X0_keepUnlessError hh x = some (x, hh2) := by
  unfold f_X0_keepUnlessError
  by_cases c : (6 : Int32) ≤ hh.2.1
  · cases hp : f_X0_placeOf hh 1 with
    | none => 
      exfalso
      unfold f_X0_placeOf f_J9_floorMod_7cf53 at hp
      rw [if_neg (by decide)] at hp
      by_cases d : 0 ≤ (hh.1 + 1) ^^^ 7
      · rw [if_pos d] at hp; cases hp
      · rw [if_neg d] at hp
        by_cases d2 : (hh.1 + 1) - (hh.1 + 1) / 7 * 7 = 0
        · rw [if_pos d2] at hp; cases hp
        · rw [if_neg d2] at hp; cases hp
    | some v => exact ⟨H1 hh v, fun x hx => by rw [ob (isError_e x), if_neg hx, if_pos rfl, if_pos c, ob rfl]⟩
  · exact ⟨H2 hh (hh.2.1 + 1), fun x hx => by rw [ob (isError_e x), if_neg hx, if_pos rfl, if_neg c]⟩
theorem J_pass : St_pass JJ := by
  intro k t hh pp s0 s1 mm a0 hk h
  obtain ⟨_, h1, ⟨hS, np, nq, hN⟩, ⟨o, sz, h3⟩, h4, h5, h6⟩ := id h
  unfold f_X3_pass f_X4_pass
  obtain ⟨hh', mm', n1, n2, n3, n4, n5, n6⟩ := noted h1 ⟨hS, np, nq, hN⟩ h3
  have n5' : mm'.2.2.2.2 = mm.2.2.2.2 := congrArg (fun z => z.2.2) n5
  rcases op_pass h1 hS hN a0 with ⟨r, c1, c2, o1, o2⟩ | ⟨r, r', t', u', d, c1, c2, o1, o2, o3, o4, o5, o6⟩
  · have hE : IsE r := ⟨fun c => by
      have d1 := ti_lt.1 c1
      have d2 := ti_le.1 c
      omega, c2⟩
    obtain ⟨hh2, mm2, o', sz', q1, q2, q3, q4, q5⟩ := end_e (HK_row n3 mm.1) n6 r
    refine ⟨(r, t, hh2), (r, mm2), ?_, ?_, rfl, hk, ?_, ?_, ⟨o', sz', q3.mono (by omega)⟩, ?_, ?_, ?_⟩
    · rw [ob n1, ob o1, ob q1, ob (isError_e r), if_pos hE, if_neg n10]
    · rw [ob n2, n4, ob o2, ob q2]
    · show RT _ t mm2.1
      rw [q4]
      exact h1.mono (by omega)
    · show UI mm2.1
      rw [q4]
      exact ⟨hS, np, nq, hN⟩
    · exact h4.cg (q5.trans n5')
    · exact (h5.cg (q5.trans n5')).mono (by omega)
    · exact (h6.cg (q5.trans n5')).mono (by omega)
  · have hE : ¬ IsE r := fun e => e.1 c1
    have hE' : ¬ IsE r' := fun e => e.1 c2
    obtain ⟨hh2, mm2, o', sz', q1, q2, q3, q4, q5⟩ := end_e (HK_row n3 u') n6 r'
    obtain ⟨hh3, k3⟩ := end_irr (B := 0) (hh := hh') hE
    have e3 : hh3 = hh2 := congrArg Prod.snd (Option.some.inj ((k3 r' hE').symm.trans q1))
    subst e3
    refine ⟨(r', t', hh3), (r', mm2), ?_, ?_, rfl, hk, ?_, ?_, ⟨o', sz', q3.mono (by omega)⟩, ?_, ?_, ?_⟩
    · rw [ob n1, ob o1, ob (k3 r hE), ob (isError_e r), if_neg hE, if_pos rfl, ob o3, ob o4]
    · rw [ob n2, n4, ob o2, ob q2]
    · show RT _ t' mm2.1
      rw [q4]
      exact o5.mono (by omega)
    · show UI mm2.1
      rw [q4]
      exact o6
    · exact h4.cg (q5.trans n5')
    · exact (h5.cg (q5.trans n5')).mono (by omega)
    · exact (h6.cg (q5.trans n5')).mono (by omega)

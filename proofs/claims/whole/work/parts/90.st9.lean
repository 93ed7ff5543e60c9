theorem Rel.s {Ω : aw_O} {I : aw_MI} {J : aw_MJ} (R : Rel Ω I J) {s : Nat} (hs : s < 4) : (I 57 s = -1 ↔ I 81 s < 0) ∧ I 57 s = I 81 s ∧ I 58 s = I 82 s ∧ ∀ i, i < 12 → J 59 (s * 12 + i) = J 83 (12 * s + i) := by
  obtain ⟨h1, h2, h3, h4, h5⟩ := R.2.2.2.1 s hs
  refine ⟨?_, h1, h2, h5⟩
  rw [← h1]
  rcases h3 with e | e | e
  · rw [e]; exact ⟨fun _ => m1_lt, fun _ => rfl⟩
  · rw [e]; exact ⟨fun q => absurd q (by decide), fun q => absurd q (by decide)⟩
  · rw [e]; exact ⟨fun q => absurd q (by decide), fun q => absurd q (by decide)⟩
theorem Rel.l7 {Ω : aw_O} {I : aw_MI} {J : aw_MJ} (R : Rel Ω I J) : ∀ s, s < 4 → ∃ e, e ≤ 12 ∧ I 58 s = nI e := fun s hs => (R.2.2.2.1 s hs).2.2.2.1
theorem Rel.l8 {Ω : aw_O} {I : aw_MI} {J : aw_MJ} (R : Rel Ω I J) : ∀ s, s < 4 → ∃ e, e ≤ 12 ∧ I 82 s = nI e := fun s hs => by
  obtain ⟨e, h1, h2⟩ := R.l7 s hs
  exact ⟨e, h1, by rw [← (R.2.2.2.1 s hs).2.1]; exact h2⟩
theorem varN {x : Int32} {n : Nat} : sp_var x n = 0 ↔ x < 0 ∨ ¬ x < nI n := by
  constructor
  · intro h
    by_cases e : x < 0
    · exact Or.inl e
    · exact Or.inr (fun e2 => sp_var_of e e2 h)
  · rintro (h | h)
    · exact sp_var_lt h
    · exact sp_var_ge h
theorem st_read {G : aw_G} {d : Nat} {Ω : aw_O} {I : aw_MI} {J : aw_MJ} {Q : Int64 → aw_O → aw_MI → aw_MJ → Prop} {x y : Int32} (R : Rel Ω I J) (hd : 160 ≤ d) (hQ : ∀ z I1 J1, pr_L G MX8_read d 0 0 [.ref (aw_ad G 65), .int x, .int y] z Ω I1 J1 → Q z Ω I1 J1) : aw_Call G MX7_read d 0 0 [.ref (aw_ad G 0), .int x, .int y] Ω I J (aw_QL Q) := by
  refine tX7_read R.1.1 R.l7 (by omega) ?_ ?_ ?_ ?_
  · intro c
    refine hQ _ _ _ (fun Q' k => tX8_read R.1.2.1 R.l8 (by omega) ?_ ?_ ?_ ?_)
    · intro _; exact k _ _ _ R (Nat.le_add_right _ _)
    · intro s mx ms _; rw [mx, sp_var_in ms (by omega)] at c; exact absurd c (by decide)
    · intro s e mx ms _ _ _ _; rw [mx, sp_var_in ms (by omega)] at c; exact absurd c (by decide)
    · intro s e i mx ms _ _ _ _ _; rw [mx, sp_var_in ms (by omega)] at c; exact absurd c (by decide)
  · intro s cx cs c
    have hS := R.s cs
    refine hQ _ _ _ (fun Q' k => tX8_read R.1.2.1 R.l8 (by omega) ?_ ?_ ?_ ?_)
    · intro e; rw [cx, sp_var_in cs (by omega)] at e; exact absurd e (by decide)
    · intro _ _ _ _; exact k _ _ _ R (Nat.le_add_right _ _)
    · intro s' e mx ms mn _ _ _
      have h1 : s' = s := (nI_eq (by omega) (by omega)).mp (by rw [← mx, ← cx])
      subst h1
      exact absurd (hS.1.mp c) mn
    · intro s' e i mx ms mn _ _ _ _
      have h1 : s' = s := (nI_eq (by omega) (by omega)).mp (by rw [← mx, ← cx])
      subst h1
      exact absurd (hS.1.mp c) mn
  · intro s cx cs c cp
    have hS := R.s cs
    refine hQ _ _ _ (fun Q' k => tX8_read R.1.2.1 R.l8 (by omega) ?_ ?_ ?_ ?_)
    · intro e; rw [cx, sp_var_in cs (by omega)] at e; exact absurd e (by decide)
    · intro s' mx ms mn
      have h1 : s' = s := (nI_eq (by omega) (by omega)).mp (by rw [← mx, ← cx])
      subst h1
      exact absurd (hS.1.mpr mn) c
    · intro _ _ _ _ _ _ _ _; exact k _ _ _ R (Nat.le_add_right _ _)
    · intro s' e i mx ms mn me me2 my mi
      have h1 : s' = s := (nI_eq (by omega) (by omega)).mp (by rw [← mx, ← cx])
      subst h1
      rw [hS.2.2.1, me] at cp
      have := varN.mpr cp
      rw [my, sp_var_in mi (by omega)] at this
      exact absurd this (by decide)
  · intro s i cx cs c cy ci cp
    have hS := R.s cs
    refine hQ _ _ _ (fun Q' k => tX8_read R.1.2.1 R.l8 (by omega) ?_ ?_ ?_ ?_)
    · intro e; rw [cx, sp_var_in cs (by omega)] at e; exact absurd e (by decide)
    · intro s' mx ms mn
      have h1 : s' = s := (nI_eq (by omega) (by omega)).mp (by rw [← mx, ← cx])
      subst h1
      exact absurd (hS.1.mpr mn) c
    · intro s' e mx ms mn me me2 mv
      have h1 : s' = s := (nI_eq (by omega) (by omega)).mp (by rw [← mx, ← cx])
      subst h1
      rw [hS.2.2.1, me] at cp
      exfalso
      rcases varN.mp mv with q | q
      · rw [cy] at q
        exact absurd (Or.inl q) (nI_rg (a := 0) (b := 12) rfl (by omega) (by omega) (by omega))
      · exact q cp
    · intro s' e i' mx ms mn me me2 my mi
      have h1 : s' = s := (nI_eq (by omega) (by omega)).mp (by rw [← mx, ← cx])
      have h2 : i' = i := (nI_eq (by omega) (by omega)).mp (by rw [← my, ← cy])
      subst h1 h2
      rw [← hS.2.2.2 i' ci]
      exact k _ _ _ R (Nat.le_add_right _ _)
theorem st_cell {G : aw_G} {d : Nat} {Ω : aw_O} {I : aw_MI} {J : aw_MJ} {Q : Int32 → aw_O → aw_MI → aw_MJ → Prop} {x y : Int32} {v : Int64} (R : Rel Ω I J) (hd : 160 ≤ d) (hQ : ∀ z I1 J1, pr_I G MX8_cell d 0 0 [.ref (aw_ad G 65), .int x, .int y, .long v] z Ω I1 J1 → Q z Ω I1 J1) : aw_Call G MX7_cell d 0 0 [.ref (aw_ad G 0), .int x, .int y, .long v] Ω I J (aw_QI Q) := by
  refine tX7_cell R.1.1 R.l7 (by omega) ?_ ?_ ?_ ?_ ?_
  · intro c
    refine hQ _ _ _ (fun Q' k => tX8_cell R.1.2.1 R.l8 (by omega) ?_ ?_ ?_ ?_ ?_)
    · intro _; exact k _ _ _ R (Nat.le_add_right _ _)
    · intro s mx ms _; rw [mx, sp_var_in ms (by omega)] at c; exact absurd c (by decide)
    · intro s e mx ms _ _ _ _; rw [mx, sp_var_in ms (by omega)] at c; exact absurd c (by decide)
    · intro s e i mx ms _ _ _ _ _ _ _; rw [mx, sp_var_in ms (by omega)] at c; exact absurd c (by decide)
    · intro s e i mx ms _ _ _ _ _ _; rw [mx, sp_var_in ms (by omega)] at c; exact absurd c (by decide)
  · intro s cx cs c
    have hS := R.s cs
    refine hQ _ _ _ (fun Q' k => tX8_cell R.1.2.1 R.l8 (by omega) ?_ ?_ ?_ ?_ ?_)
    · intro e; rw [cx, sp_var_in cs (by omega)] at e; exact absurd e (by decide)
    · intro _ _ _ _; exact k _ _ _ R (Nat.le_add_right _ _)
    · intro s' e mx ms mn _ _ _
      have h1 : s' = s := (nI_eq (by omega) (by omega)).mp (by rw [← mx, ← cx])
      subst h1
      exact absurd (hS.1.mp c) mn
    · intro s' e i mx ms mn _ _ _ _ _ _
      have h1 : s' = s := (nI_eq (by omega) (by omega)).mp (by rw [← mx, ← cx])
      subst h1
      exact absurd (hS.1.mp c) mn
    · intro s' e i mx ms mn _ _ _ _ _
      have h1 : s' = s := (nI_eq (by omega) (by omega)).mp (by rw [← mx, ← cx])
      subst h1
      exact absurd (hS.1.mp c) mn
  · intro s cx cs c cp
    have hS := R.s cs
    refine hQ _ _ _ (fun Q' k => tX8_cell R.1.2.1 R.l8 (by omega) ?_ ?_ ?_ ?_ ?_)
    · intro e; rw [cx, sp_var_in cs (by omega)] at e; exact absurd e (by decide)
    · intro s' mx ms mn
      have h1 : s' = s := (nI_eq (by omega) (by omega)).mp (by rw [← mx, ← cx])
      subst h1
      exact absurd (hS.1.mpr mn) c
    · intro _ _ _ _ _ _ _ _; exact k _ _ _ R (Nat.le_add_right _ _)
    · intro s' e i mx ms mn me me2 my mi _ _
      have h1 : s' = s := (nI_eq (by omega) (by omega)).mp (by rw [← mx, ← cx])
      subst h1
      rw [hS.2.2.1, me] at cp
      have := varN.mpr cp
      rw [my, sp_var_in mi (by omega)] at this
      exact absurd this (by decide)
    · intro s' e i mx ms mn me me2 my mi _
      have h1 : s' = s := (nI_eq (by omega) (by omega)).mp (by rw [← mx, ← cx])
      subst h1
      rw [hS.2.2.1, me] at cp
      have := varN.mpr cp
      rw [my, sp_var_in mi (by omega)] at this
      exact absurd this (by decide)
  · intro s i cx cs c cy ci cp c0 cv
    have hS := R.s cs
    refine hQ _ _ _ (fun Q' k => tX8_cell R.1.2.1 R.l8 (by omega) ?_ ?_ ?_ ?_ ?_)
    · intro e; rw [cx, sp_var_in cs (by omega)] at e; exact absurd e (by decide)
    · intro s' mx ms mn
      have h1 : s' = s := (nI_eq (by omega) (by omega)).mp (by rw [← mx, ← cx])
      subst h1
      exact absurd (hS.1.mpr mn) c
    · intro s' e mx ms mn me me2 mv
      have h1 : s' = s := (nI_eq (by omega) (by omega)).mp (by rw [← mx, ← cx])
      subst h1
      rw [hS.2.2.1, me] at cp
      exfalso
      rcases varN.mp mv with q | q
      · rw [cy] at q
        exact absurd (Or.inl q) (nI_rg (a := 0) (b := 12) rfl (by omega) (by omega) (by omega))
      · exact q cp
    · intro _ _ _ _ _ _ _ _ _ _ _ _; exact k _ _ _ R (Nat.le_add_right _ _)
    · intro s' e i' mx ms mn me me2 my mi mv
      have h1 : s' = s := (nI_eq (by omega) (by omega)).mp (by rw [← mx, ← cx])
      subst h1
      exact absurd (mv (by rw [← hS.2.1]; exact c0)) cv
  · intro s i cx cs c cy ci cp cv
    have hS := R.s cs
    refine hQ _ _ _ (fun Q' k => tX8_cell R.1.2.1 R.l8 (by omega) ?_ ?_ ?_ ?_ ?_)
    · intro e; rw [cx, sp_var_in cs (by omega)] at e; exact absurd e (by decide)
    · intro s' mx ms mn
      have h1 : s' = s := (nI_eq (by omega) (by omega)).mp (by rw [← mx, ← cx])
      subst h1
      exact absurd (hS.1.mpr mn) c
    · intro s' e mx ms mn me me2 mv
      have h1 : s' = s := (nI_eq (by omega) (by omega)).mp (by rw [← mx, ← cx])
      subst h1
      rw [hS.2.2.1, me] at cp
      exfalso
      rcases varN.mp mv with q | q
      · rw [cy] at q
        exact absurd (Or.inl q) (nI_rg (a := 0) (b := 12) rfl (by omega) (by omega) (by omega))
      · exact q cp
    · intro s' e i' mx ms mn me me2 my mi m0 mv
      have h1 : s' = s := (nI_eq (by omega) (by omega)).mp (by rw [← mx, ← cx])
      subst h1
      exact absurd (cv (by rw [hS.2.1]; exact m0)) mv
    · intro s' e i' mx ms mn me me2 my mi mv
      have h1 : s' = s := (nI_eq (by omega) (by omega)).mp (by rw [← mx, ← cx])
      have h2 : i' = i := (nI_eq (by omega) (by omega)).mp (by rw [← my, ← cy])
      subst h1 h2
      refine k _ _ _ (R.sheet (fun a k e => rfl) (fun a k e => by rw [aw_up_ne _ _ (by omega), aw_up_ne _ _ (by omega)]) (fun q hq => ?_)) (Nat.le_add_right _ _)
      obtain ⟨h1, h2, h3, h4, h5⟩ := R.2.2.2.1 q hq
      refine ⟨h1, h2, h3, h4, fun j hj => ?_⟩
      rw [aw_up_ne (aw_up J 59 (s' * 12 + i') v) _ (by omega)]
      by_cases e : q = s' ∧ j = i'
      · rw [e.1, e.2, aw_up_self, aw_up_self]
      · rw [aw_up_ne _ _ (by omega), aw_up_ne _ _ (by omega), aw_up_ne _ _ (by omega)]
        exact h5 j hj

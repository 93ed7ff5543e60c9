theorem st_back {G : aw_G} {d : Nat} {Ω : aw_O} {I : aw_MI} {J : aw_MJ} {Q : Int32 → aw_O → aw_MI → aw_MJ → Prop} (R : Rel Ω I J) (hd : 160 ≤ d) (hQ : ∀ z I1 J1, pr_I G MX8_back d 0 0 [.ref (aw_ad G 65)] z Ω I1 J1 → Q z Ω I1 J1) : aw_Call G MX7_back d 0 0 [.ref (aw_ad G 0)] Ω I J (aw_QI Q) := by
  have R0 := R
  obtain ⟨hw, -, him, hsh, hbo⟩ := R0
  refine tX7_back hw.1 (by omega) ?_ ?_
  · intro c
    refine hQ _ _ _ (fun Q' k => tX8_back hw.2.1 ?_ ?_)
    · intro _
      exact k _ _ _ R (Nat.le_add_right _ _)
    · intro e
      exact absurd (by rw [← him.1]; exact c) e
  · intro c
    obtain ⟨n, m, t, hb⟩ := him.2 c
    refine hQ _ _ _ (fun Q' k => ?_)
    generalize hI1 : aw_cp (aw_cp (aw_cp (aw_cp (aw_cp (aw_cp (aw_up (aw_up (aw_up I 1 0 (I 8 0)) 1 1 (I 8 1)) 1 2 (I 8 2)) (9) (2) (0) (0) (9)) (10) (3) (0) (0) (3)) (11) (4) (0) (0) (6)) (12) (5) (0) (0) (6)) (13) (6) (0) (0) (6)) (14) (7) (0) (0) (18) = I1 at k
    have g : ∀ a k, a < 1 ∨ 7 < a → I1 a k = I a k := fun a k _ => by
      rw [← hI1]
      simp (disch := omega) only [aw_cp_off, aw_up_off]
    have g1 : ∀ k, k < 3 → I1 1 k = I 8 k := fun k hk => by
      rw [← hI1]
      simp (disch := omega) only [aw_cp_off]
      rcases (by omega : k = 0 ∨ k = 1 ∨ k = 2) with e | e | e <;> rw [e]
      · rw [aw_up_ne _ _ (by omega), aw_up_ne _ _ (by omega), aw_up_self]
      · rw [aw_up_ne _ _ (by omega), aw_up_self]
      · rw [aw_up_self]
    have g2 : ∀ k, k < 9 → I1 2 k = I 9 k := fun k hk => by
      rw [← hI1]
      simp (disch := omega) only [aw_cp_off, aw_up_off, aw_cp_in0]
    have g3 : ∀ k, k < 3 → I1 3 k = I 10 k := fun k hk => by
      rw [← hI1]
      simp (disch := omega) only [aw_cp_off, aw_up_off, aw_cp_in0]
    have g4 : ∀ k, k < 6 → I1 4 k = I 11 k := fun k hk => by
      rw [← hI1]
      simp (disch := omega) only [aw_cp_off, aw_up_off, aw_cp_in0]
    have g5 : ∀ k, k < 6 → I1 5 k = I 12 k := fun k hk => by
      rw [← hI1]
      simp (disch := omega) only [aw_cp_off, aw_up_off, aw_cp_in0]
    have g6 : ∀ k, k < 6 → I1 6 k = I 13 k := fun k hk => by
      rw [← hI1]
      simp (disch := omega) only [aw_cp_off, aw_up_off, aw_cp_in0]
    have g7 : ∀ k, k < 18 → I1 7 k = I 14 k := fun k hk => by
      rw [← hI1]
      simp (disch := omega) only [aw_cp_off, aw_up_off, aw_cp_in0]
    refine tX8_back hw.2.1 ?_ ?_
    · intro e
      rw [g _ _ (by omega), ← him.1] at e
      exact absurd e c
    · intro _
      generalize hI2 : aw_wr (aw_wr (aw_wr (aw_up (aw_up (aw_up I1 65 0 (I1 69 0)) 65 3 (I1 69 1)) 65 4 (I1 69 2)) 66 0 9 (fun k => I1 69 (3 + k))) 67 0 3 (fun k => I1 69 (12 + k))) 68 0 36 (fun k => I1 69 (15 + k)) = I2
      have f : ∀ a k, ¬ (a = 65 ∧ (k = 0 ∨ k = 3 ∨ k = 4)) → a ≠ 66 → a ≠ 67 → a ≠ 68 → I2 a k = I1 a k := fun a k _ _ _ _ => by
        rw [← hI2, aw_wr_off _ _ (by omega), aw_wr_off _ _ (by omega), aw_wr_off _ _ (by omega), aw_up_ne _ _ (by omega), aw_up_ne _ _ (by omega), aw_up_ne _ _ (by omega)]
      have f0 : I2 65 0 = I1 69 0 := by
        rw [← hI2, aw_wr_off _ _ (by omega), aw_wr_off _ _ (by omega), aw_wr_off _ _ (by omega), aw_up_ne _ _ (by omega), aw_up_ne _ _ (by omega), aw_up_self]
      have f1 : I2 65 3 = I1 69 1 := by
        rw [← hI2, aw_wr_off _ _ (by omega), aw_wr_off _ _ (by omega), aw_wr_off _ _ (by omega), aw_up_ne _ _ (by omega), aw_up_self]
      have f2 : I2 65 4 = I1 69 2 := by
        rw [← hI2, aw_wr_off _ _ (by omega), aw_wr_off _ _ (by omega), aw_wr_off _ _ (by omega), aw_up_self]
      have f66 : ∀ k, k < 9 → I2 66 k = I1 69 (3 + k) := fun k hk => by
        rw [← hI2, aw_wr_off _ _ (by omega), aw_wr_off _ _ (by omega), aw_wr_in0 _ _ hk]
      have f67 : ∀ k, k < 3 → I2 67 k = I1 69 (12 + k) := fun k hk => by
        rw [← hI2, aw_wr_off _ _ (by omega), aw_wr_in0 _ _ hk]
      have f68 : ∀ k, k < 36 → I2 68 k = I1 69 (15 + k) := fun k hk => by
        rw [← hI2, aw_wr_in0 _ _ hk]
      have e2 : I1 69 2 = I 8 2 := by
        rw [g _ _ (by omega), hb.2.1.2.2.2.2.2, hb.2.1.2.2.1]
      rw [e2]
      refine k _ _ _ (R.bowl (n := n) (m := m) (t := t) ?_ (fun a k e => by rw [f _ _ (by omega) (by omega) (by omega) (by omega), g _ _ (by omega)])) (Nat.le_add_right _ _)
      exact bw_c hb (fun k hk => by rw [f _ _ (by omega) (by omega) (by omega) (by omega)]; exact g1 k hk) (fun k hk => by rw [f _ _ (by omega) (by omega) (by omega) (by omega)]; exact g2 k hk) (fun k hk => by rw [f _ _ (by omega) (by omega) (by omega) (by omega)]; exact g3 k hk) (fun k hk => ⟨by rw [f _ _ (by omega) (by omega) (by omega) (by omega)]; exact g4 k hk, by rw [f _ _ (by omega) (by omega) (by omega) (by omega)]; exact g5 k hk, by rw [f _ _ (by omega) (by omega) (by omega) (by omega)]; exact g6 k hk⟩) (fun k hk => by rw [f _ _ (by omega) (by omega) (by omega) (by omega)]; exact g7 k hk) (by rw [f0, g _ _ (by omega)]) (by rw [f1, g _ _ (by omega)]) (by rw [f2, g _ _ (by omega)]) (fun k hk => by rw [f66 k hk, g _ _ (by omega)]) (fun k hk => by rw [f67 k hk, g _ _ (by omega)]) (fun k hk => by rw [f68 k hk, g _ _ (by omega)])
/-- only sheets changed -/
theorem Rel.sheet {Ω : aw_O} {I I2 : aw_MI} {J J2 : aw_MJ} (R : Rel Ω I J) (hi : ∀ a k, (a = 0 ∨ (1 ≤ a ∧ a ≤ 14) ∨ a = 64 ∨ (a = 65 ∧ (k = 0 ∨ k = 3 ∨ k = 4 ∨ k = 6 ∨ k = 8)) ∨ (66 ≤ a ∧ a ≤ 70)) → I2 a k = I a k) (hj : ∀ a k, a = 64 ∨ (a = 65 ∧ (k = 9 ∨ k = 11 ∨ k = 12)) → J2 a k = J a k) (hs : re_sh I2 J2) : Rel Ω I2 J2 := by
  obtain ⟨h1, ⟨n, m, t, h2⟩, h3, -, h5⟩ := R
  refine ⟨h1, ⟨n, m, t, ?_⟩, ⟨?_, fun e => ?_⟩, hs, ?_⟩
  · exact bw_c h2 (fun k _ => hi _ k (by omega)) (fun k _ => hi _ k (by omega)) (fun k _ => hi _ k (by omega)) (fun k _ => ⟨hi _ k (by omega), hi _ k (by omega), hi _ k (by omega)⟩) (fun k _ => hi _ k (by omega)) (hi _ _ (by omega)) (hi _ _ (by omega)) (hi _ _ (by omega)) (fun k _ => hi _ _ (by omega)) (fun k _ => hi _ _ (by omega)) (fun k _ => hi _ _ (by omega))
  · rw [hi 0 8 (by omega), hi 65 6 (by omega)]; exact h3.1
  · rw [hi 0 8 (by omega)] at e
    obtain ⟨n', m', t', h⟩ := h3.2 e
    exact ⟨n', m', t', bw_c h (fun k _ => hi _ k (by omega)) (fun k _ => hi _ k (by omega)) (fun k _ => hi _ k (by omega)) (fun k _ => ⟨hi _ k (by omega), hi _ k (by omega), hi _ k (by omega)⟩) (fun k _ => hi _ k (by omega)) (hi _ _ (by omega)) (hi _ _ (by omega)) (hi _ _ (by omega)) (fun k _ => hi _ _ (by omega)) (fun k _ => hi _ _ (by omega)) (fun k _ => hi _ _ (by omega))⟩
  · obtain ⟨g1, g2, g3, g4, g5, g6⟩ := h5
    unfold re_bo
    rw [hi 64 0 (by omega), hi 65 8 (by omega), hj 64 1 (by omega), hj 65 9 (by omega), hj 64 2 (by omega), hj 65 11 (by omega), hj 64 3 (by omega), hj 65 12 (by omega), hj 64 4 (by omega)]
    exact ⟨g1, g2, g3, g4, g5, fun k hk => by rw [hi 70 k (by omega)]; exact g6 k hk⟩
theorem srt0 {y : Int32} : sp_srt y = 0 ↔ y < -1 ∨ nI 1 < y := by
  unfold sp_srt
  by_cases c1 : y < -1
  · rw [if_pos c1]; exact ⟨fun _ => Or.inl c1, fun _ => rfl⟩
  · rw [if_neg c1]
    by_cases c2 : nI 1 < y
    · rw [if_pos c2]; exact ⟨fun _ => Or.inr c2, fun _ => rfl⟩
    · rw [if_neg c2]
      exact ⟨fun e => absurd e (by decide), fun e => absurd e (by rintro (e | e); exact c1 e; exact c2 e)⟩
theorem srt3 {y : Int32} (h1 : ¬ y < -1) (h2 : ¬ nI 1 < y) : y = -1 ∨ y = nI 0 ∨ y = nI 1 := by
  rw [Int32.lt_iff_toInt_lt] at h1 h2
  have e1 : (-1 : Int32).toInt = -1 := by decide
  have e2 : (nI 1).toInt = 1 := rfl
  rcases (by omega : y.toInt = -1 ∨ y.toInt = 0 ∨ y.toInt = 1) with e | e | e
  · exact Or.inl (Int32.toInt_inj.mp (by rw [e]; rfl))
  · exact Or.inr (Or.inl (Int32.toInt_inj.mp (by rw [e]; rfl)))
  · exact Or.inr (Or.inr (Int32.toInt_inj.mp (by rw [e]; rfl)))
/-- a sheet laid anew -/
theorem sh_new {Ω : aw_O} {I : aw_MI} {J : aw_MJ} {s j : Nat} {y u : Int32} (R : Rel Ω I J) (hs : s < 4) (hy : y = -1 ∨ y = nI 0 ∨ y = nI 1) (hu : u = nI j) (hj : j ≤ 12) : Rel Ω (aw_up (aw_up (aw_up (aw_up I 57 s y) 58 s u) 81 s y) 82 s u) (aw_fr (aw_fr J 59 (s * 12) 12 0) 83 (12 * s) 12 0) := by
  refine R.sheet (fun a k e => by rw [aw_up_ne _ _ (by omega), aw_up_ne _ _ (by omega), aw_up_ne _ _ (by omega), aw_up_ne _ _ (by omega)]) (fun a k e => by rw [aw_fr_off _ _ (by omega), aw_fr_off _ _ (by omega)]) (fun q hq => ?_)
  obtain ⟨h1, h2, h3, h4, h5⟩ := R.2.2.2.1 q hq
  have f57 : aw_up (aw_up (aw_up (aw_up I 57 s y) 58 s u) 81 s y) 82 s u 57 q = if q = s then y else I 57 q := by
    rw [aw_up_ne _ _ (by omega), aw_up_ne _ _ (by omega), aw_up_ne _ _ (by omega)]
    by_cases e : q = s
    · rw [if_pos e, e, aw_up_self]
    · rw [if_neg e, aw_up_ne _ _ (by omega)]
  have f58 : aw_up (aw_up (aw_up (aw_up I 57 s y) 58 s u) 81 s y) 82 s u 58 q = if q = s then u else I 58 q := by
    rw [aw_up_ne _ _ (by omega), aw_up_ne _ _ (by omega)]
    by_cases e : q = s
    · rw [if_pos e, e, aw_up_self]
    · rw [if_neg e, aw_up_ne _ _ (by omega), aw_up_ne _ _ (by omega)]
  have f81 : aw_up (aw_up (aw_up (aw_up I 57 s y) 58 s u) 81 s y) 82 s u 81 q = if q = s then y else I 81 q := by
    rw [aw_up_ne _ _ (by omega)]
    by_cases e : q = s
    · rw [if_pos e, e, aw_up_self]
    · rw [if_neg e, aw_up_ne _ _ (by omega), aw_up_ne _ _ (by omega), aw_up_ne _ _ (by omega)]
  have f82 : aw_up (aw_up (aw_up (aw_up I 57 s y) 58 s u) 81 s y) 82 s u 82 q = if q = s then u else I 82 q := by
    by_cases e : q = s
    · rw [if_pos e, e, aw_up_self]
    · rw [if_neg e, aw_up_ne _ _ (by omega), aw_up_ne _ _ (by omega), aw_up_ne _ _ (by omega), aw_up_ne _ _ (by omega)]
  rw [f57, f58, f81, f82]
  refine ⟨?_, ?_, ?_, ?_, fun i hi => ?_⟩
  · rw [h1]
  · rw [h2]
  · by_cases e : q = s
    · rw [if_pos e]; exact hy
    · rw [if_neg e]; exact h3
  · by_cases e : q = s
    · rw [if_pos e]; exact ⟨j, hj, hu⟩
    · rw [if_neg e]; exact h4
  · have e1 : aw_fr (aw_fr J 59 (s * 12) 12 0) 83 (12 * s) 12 0 59 (q * 12 + i) = if q = s then 0 else J 59 (q * 12 + i) := by
      rw [aw_fr_off _ _ (by omega)]
      unfold aw_fr
      by_cases e : q = s
      · rw [if_pos ⟨rfl, by omega, by omega⟩, if_pos e]
      · rw [if_neg (by omega), if_neg e]
    have e2 : aw_fr (aw_fr J 59 (s * 12) 12 0) 83 (12 * s) 12 0 83 (12 * q + i) = if q = s then 0 else J 83 (12 * q + i) := by
      by_cases e : q = s
      · unfold aw_fr
        rw [if_pos ⟨rfl, by omega, by omega⟩, if_pos e]
      · rw [if_neg e]
        unfold aw_fr
        rw [if_neg (by omega), if_neg (by omega)]
    rw [e1, e2, h5 i hi]
theorem m1_lt : (-1 : Int32) < 0 := by decide
theorem st_sheet {G : aw_G} {d : Nat} {Ω : aw_O} {I : aw_MI} {J : aw_MJ} {Q : Int32 → aw_O → aw_MI → aw_MJ → Prop} {x y v : Int32} (R : Rel Ω I J) (hd : 160 ≤ d) (hQ : ∀ z I1 J1, pr_I G MX8_sheet d 0 0 [.ref (aw_ad G 65), .int x, .int y, .int v] z Ω I1 J1 → Q z Ω I1 J1) : aw_Call G MX7_sheet d 0 0 [.ref (aw_ad G 0), .int x, .int y, .int v] Ω I J (aw_QI Q) := by
  have hneg : ¬ y < -1 → ¬ nI 1 < y → (y < 0 ↔ y = -1) := fun a b => by
    rcases srt3 a b with e | e | e
    · rw [e]; exact ⟨fun _ => rfl, fun _ => m1_lt⟩
    · rw [e]; exact ⟨fun q => absurd q (by decide), fun q => absurd q (by decide)⟩
    · rw [e]; exact ⟨fun q => absurd q (by decide), fun q => absurd q (by decide)⟩
  refine tX7_sheet R.1.1 (by omega) ?_ ?_ ?_ ?_ ?_
  · intro cB
    refine hQ _ _ _ (fun Q' k => tX8_sheet R.1.2.1 (by omega) ?_ ?_ ?_ ?_)
    · intro _; exact k _ _ _ R (Nat.le_add_right _ _)
    · intro s mx ms mt _ _
      exfalso
      rcases cB with e | e
      · rw [mx, sp_var_in ms (by omega)] at e; exact absurd e (by decide)
      · exact mt (srt0.mpr e)
    · intro s mx ms mt _ _
      exfalso
      rcases cB with e | e
      · rw [mx, sp_var_in ms (by omega)] at e; exact absurd e (by decide)
      · exact mt (srt0.mpr e)
    · intro s mx ms mt _
      exfalso
      rcases cB with e | e
      · rw [mx, sp_var_in ms (by omega)] at e; exact absurd e (by decide)
      · exact mt (srt0.mpr e)
  · intro c0 c1 c2 c3 c4
    refine hQ _ _ _ (fun Q' k => tX8_sheet R.1.2.1 (by omega) ?_ ?_ ?_ ?_)
    · intro _; exact k _ _ _ R (Nat.le_add_right _ _)
    · intro _ _ _ _ _ _; exact k _ _ _ R (Nat.le_add_right _ _)
    · intro s mx ms mt _ mv
      exfalso
      rw [Int32.lt_iff_toInt_lt] at c4 mv
      have e1 : (nI 12).toInt = 12 := rfl
      have e2 : (0 : Int32).toInt = 0 := rfl
      omega
    · intro s mx ms mt mv
      exfalso
      rcases mv with e | e
      · exact c3 ((hneg c1 c2).mp e)
      · exact e.1 c4
  · intro c0 c1 c2 c3 c4
    refine hQ _ _ _ (fun Q' k => tX8_sheet R.1.2.1 (by omega) ?_ ?_ ?_ ?_)
    · intro e
      exfalso
      rcases e with e | e
      · exact c0 e
      · exact absurd (srt0.mp e) (by rintro (e | e); exact c1 e; exact c2 e)
    · intro s mx ms mt _ mv
      exfalso
      rw [Int32.lt_iff_toInt_lt] at c4 mv
      have e1 : (nI 12).toInt = 12 := rfl
      have e2 : (0 : Int32).toInt = 0 := rfl
      omega
    · intro _ _ _ _ _ _; exact k _ _ _ R (Nat.le_add_right _ _)
    · intro s mx ms mt mv
      exfalso
      rcases mv with e | e
      · exact c3 ((hneg c1 c2).mp e)
      · exact e.2 c4
  · intro s cx cs cy
    refine hQ _ _ _ (fun Q' k => tX8_sheet R.1.2.1 (by omega) ?_ ?_ ?_ ?_)
    · intro e
      exfalso
      rcases e with e | e
      · rw [cx, sp_var_in cs (by omega)] at e; exact absurd e (by decide)
      · rw [cy] at e; exact absurd e (by decide)
    · intro _ _ _ _ e _
      exfalso
      rw [cy] at e
      exact e m1_lt
    · intro _ _ _ _ e _
      exfalso
      rw [cy] at e
      exact e m1_lt
    · intro s' mx ms mt _
      have h1 : s' = s := (nI_eq (by omega) (by omega)).mp (by rw [← mx, ← cx])
      subst h1
      rw [if_pos (by rw [cy]; exact m1_lt)]
      exact k _ _ _ (sh_new (j := 0) R cs (Or.inl cy) rfl (by omega)) (Nat.le_add_right _ _)
  · intro s j cx cs c1 c2 c3 cv cj
    refine hQ _ _ _ (fun Q' k => tX8_sheet R.1.2.1 (by omega) ?_ ?_ ?_ ?_)
    · intro e
      exfalso
      rcases e with e | e
      · rw [cx, sp_var_in cs (by omega)] at e; exact absurd e (by decide)
      · exact absurd (srt0.mp e) (by rintro (e | e); exact c1 e; exact c2 e)
    · intro _ _ _ _ _ e
      exact absurd (Or.inr e) (nI_rg (a := 0) cv (by omega) cj (by omega))
    · intro _ _ _ _ _ e
      exact absurd (Or.inl e) (nI_rg (a := 0) cv (by omega) cj (by omega))
    · intro s' mx ms mt _
      have h1 : s' = s := (nI_eq (by omega) (by omega)).mp (by rw [← mx, ← cx])
      subst h1
      rw [if_neg (fun q => c3 ((hneg c1 c2).mp q))]
      exact k _ _ _ (sh_new R cs (srt3 c1 c2) cv cj) (Nat.le_add_right _ _)

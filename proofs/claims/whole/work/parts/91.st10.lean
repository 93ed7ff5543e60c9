theorem room_eq {e : Nat} {y v : Int32} (he : e ≤ 12) : sp_room (nI e) y v = 0 ↔ (v < 0 ∨ y < 0 ∨ nI e - y < v) := by
  unfold sp_room
  by_cases c1 : v < 0
  · rw [if_pos c1]; exact ⟨fun _ => Or.inl c1, fun _ => rfl⟩
  · rw [if_neg c1]
    by_cases c2 : y < 0
    · rw [if_pos c2]; exact ⟨fun _ => Or.inr (Or.inl c2), fun _ => rfl⟩
    · rw [if_neg c2]
      have z0 : (0 : Int32).toInt = 0 := rfl
      have en : (nI e).toInt = e := nI_toInt (by omega)
      have ey := Int32.toInt_lt y
      rw [Int32.lt_iff_toInt_lt, z0] at c1 c2
      have es : (nI e - y).toInt = e - y.toInt := by
        have h : nI e - y = Int32.ofInt (e - y.toInt) := by
          rw [Int32.ofInt_sub, Int32.ofInt_toInt]
          rfl
        rw [h, o32 (by omega)]
      by_cases c3 : nI e < y
      · rw [if_pos c3]
        rw [Int32.lt_iff_toInt_lt, en] at c3
        refine ⟨fun _ => Or.inr (Or.inr ?_), fun _ => rfl⟩
        rw [Int32.lt_iff_toInt_lt, es]
        omega
      · rw [if_neg c3]
        by_cases c4 : nI e - y < v
        · rw [if_pos c4]; exact ⟨fun _ => Or.inr (Or.inr c4), fun _ => rfl⟩
        · rw [if_neg c4]
          refine ⟨fun q => absurd q (by decide), fun q => ?_⟩
          rw [Int32.lt_iff_toInt_lt, Int32.lt_iff_toInt_lt, z0] at q
          exfalso
          rcases q with q | q | q
          · omega
          · omega
          · exact c4 q
theorem st_copy {G : aw_G} {d : Nat} {Ω : aw_O} {I : aw_MI} {J : aw_MJ} {Q : Int32 → aw_O → aw_MI → aw_MJ → Prop} {x y u w v : Int32} (R : Rel Ω I J) (hd : 160 ≤ d) (hQ : ∀ z I1 J1, pr_I G MX8_copy d 0 0 [.ref (aw_ad G 65), .int x, .int y, .int u, .int w, .int v] z Ω I1 J1 → Q z Ω I1 J1) : aw_Call G MX7_copy d 0 0 [.ref (aw_ad G 0), .int x, .int y, .int u, .int w, .int v] Ω I J (aw_QI Q) := by
  have hro : ∀ s t, s < 4 → t < 4 → ((sp_room (I 58 s) y v = 0 ∨ sp_room (I 58 t) w v = 0) ↔ (v < 0 ∨ y < 0 ∨ w < 0 ∨ I 82 s - y < v ∨ I 82 t - w < v)) := fun s t hs ht => by
    obtain ⟨e1, a1, b1⟩ := R.l7 s hs
    obtain ⟨e2, a2, b2⟩ := R.l7 t ht
    rw [← (R.s hs).2.2.1, ← (R.s ht).2.2.1, b1, b2, room_eq a1, room_eq a2]
    constructor
    · rintro ((h | h | h) | (h | h | h))
      · exact Or.inl h
      · exact Or.inr (Or.inl h)
      · exact Or.inr (Or.inr (Or.inr (Or.inl h)))
      · exact Or.inl h
      · exact Or.inr (Or.inr (Or.inl h))
      · exact Or.inr (Or.inr (Or.inr (Or.inr h)))
    · rintro (h | h | h | h | h)
      · exact Or.inl (Or.inl h)
      · exact Or.inl (Or.inr (Or.inl h))
      · exact Or.inr (Or.inr (Or.inl h))
      · exact Or.inl (Or.inr (Or.inr h))
      · exact Or.inr (Or.inr (Or.inr h))
  have hno : ∀ s t k i j, s < 4 → t < 4 → y = nI i → w = nI j → v = nI k → (∃ e, I 82 s = nI e ∧ i + k ≤ e ∧ e ≤ 12) → (∃ e, I 82 t = nI e ∧ j + k ≤ e ∧ e ≤ 12) → ¬ (v < 0 ∨ y < 0 ∨ w < 0 ∨ I 82 s - y < v ∨ I 82 t - w < v) := by
    rintro s t k i j hs ht hy hw hv ⟨e1, a1, a2, a3⟩ ⟨e2, b1, b2, b3⟩
    rw [a1, b1, hy, hw, hv]
    have z0 : (0 : Int32).toInt = 0 := rfl
    have ei : (nI i).toInt = i := nI_toInt (by omega)
    have ej : (nI j).toInt = j := nI_toInt (by omega)
    have ek : (nI k).toInt = k := nI_toInt (by omega)
    have s1 : (nI e1 - nI i).toInt = (e1 : Int) - i := by
      have h : nI e1 - nI i = Int32.ofInt ((e1 : Int) - i) := by rw [Int32.ofInt_sub]; rfl
      rw [h, o32 (by omega)]
    have s2 : (nI e2 - nI j).toInt = (e2 : Int) - j := by
      have h : nI e2 - nI j = Int32.ofInt ((e2 : Int) - j) := by rw [Int32.ofInt_sub]; rfl
      rw [h, o32 (by omega)]
    simp only [Int32.lt_iff_toInt_lt, z0, ei, ej, ek, s1, s2]
    omega
  refine tX7_copy R.1.1 R.l7 (by omega) ?_ ?_ ?_ ?_ ?_
  · intro c
    refine hQ _ _ _ (fun Q' k => tX8_copy R.1.2.1 R.l8 (by omega) ?_ ?_ ?_ ?_ ?_)
    · intro _; exact k _ _ _ R (Nat.le_add_right _ _)
    · intro s t mx mu ms mt _
      exfalso
      rcases c with e | e
      · rw [mx, sp_var_in ms (by omega)] at e; exact absurd e (by decide)
      · rw [mu, sp_var_in mt (by omega)] at e; exact absurd e (by decide)
    · intro s t mx mu ms mt _ _ _
      exfalso
      rcases c with e | e
      · rw [mx, sp_var_in ms (by omega)] at e; exact absurd e (by decide)
      · rw [mu, sp_var_in mt (by omega)] at e; exact absurd e (by decide)
    · intro s t mx mu ms mt _ _ _ _
      exfalso
      rcases c with e | e
      · rw [mx, sp_var_in ms (by omega)] at e; exact absurd e (by decide)
      · rw [mu, sp_var_in mt (by omega)] at e; exact absurd e (by decide)
    · intro s i t j q mx mu ms mt _ _ _ _ _ _ _ _
      exfalso
      rcases c with e | e
      · rw [mx, sp_var_in ms (by omega)] at e; exact absurd e (by decide)
      · rw [mu, sp_var_in mt (by omega)] at e; exact absurd e (by decide)
  · intro s t cx cu cs ct c
    have hS := R.s cs
    have hT := R.s ct
    have hB : ¬ (sp_var x 4 = 0 ∨ sp_var u 4 = 0) := by
      rw [cx, cu, sp_var_in cs (by omega), sp_var_in ct (by omega)]; decide
    refine hQ _ _ _ (fun Q' k => tX8_copy R.1.2.1 R.l8 (by omega) ?_ ?_ ?_ ?_ ?_)
    · intro e; exact absurd e hB
    · intro _ _ _ _ _ _ _; exact k _ _ _ R (Nat.le_add_right _ _)
    · intro s' t' mx mu ms mt m1 m2 _
      have h1 : s' = s := (nI_eq (by omega) (by omega)).mp (by rw [← mx, ← cx])
      have h2 : t' = t := (nI_eq (by omega) (by omega)).mp (by rw [← mu, ← cu])
      subst h1 h2
      exact absurd c (by rintro (e | e); exact m1 (hS.1.mp e); exact m2 (hT.1.mp e))
    · intro s' t' mx mu ms mt m1 m2 _ _
      have h1 : s' = s := (nI_eq (by omega) (by omega)).mp (by rw [← mx, ← cx])
      have h2 : t' = t := (nI_eq (by omega) (by omega)).mp (by rw [← mu, ← cu])
      subst h1 h2
      exact absurd c (by rintro (e | e); exact m1 (hS.1.mp e); exact m2 (hT.1.mp e))
    · intro s' i t' j q mx mu ms mt m1 m2 _ _ _ _ _ _
      have h1 : s' = s := (nI_eq (by omega) (by omega)).mp (by rw [← mx, ← cx])
      have h2 : t' = t := (nI_eq (by omega) (by omega)).mp (by rw [← mu, ← cu])
      subst h1 h2
      exact absurd c (by rintro (e | e); exact m1 (hS.1.mp e); exact m2 (hT.1.mp e))
  · intro s t cx cu cs ct c1 c2 c3
    have hS := R.s cs
    have hT := R.s ct
    have hB : ¬ (sp_var x 4 = 0 ∨ sp_var u 4 = 0) := by
      rw [cx, cu, sp_var_in cs (by omega), sp_var_in ct (by omega)]; decide
    refine hQ _ _ _ (fun Q' k => tX8_copy R.1.2.1 R.l8 (by omega) ?_ ?_ ?_ ?_ ?_)
    · intro e; exact absurd e hB
    · intro s' t' mx mu ms mt m1
      have h1 : s' = s := (nI_eq (by omega) (by omega)).mp (by rw [← mx, ← cx])
      have h2 : t' = t := (nI_eq (by omega) (by omega)).mp (by rw [← mu, ← cu])
      subst h1 h2
      exact absurd m1 (by rintro (e | e); exact c1 (hS.1.mpr e); exact c2 (hT.1.mpr e))
    · intro _ _ _ _ _ _ _ _ _; exact k _ _ _ R (Nat.le_add_right _ _)
    · intro s' t' mx mu ms mt m1 m2 m3 _
      have h1 : s' = s := (nI_eq (by omega) (by omega)).mp (by rw [← mx, ← cx])
      have h2 : t' = t := (nI_eq (by omega) (by omega)).mp (by rw [← mu, ← cu])
      subst h1 h2
      exact absurd (by rw [hS.2.1, hT.2.1]; exact m3) c3
    · intro s' i t' j q mx mu ms mt m1 m2 m3 _ _ _ _ _
      have h1 : s' = s := (nI_eq (by omega) (by omega)).mp (by rw [← mx, ← cx])
      have h2 : t' = t := (nI_eq (by omega) (by omega)).mp (by rw [← mu, ← cu])
      subst h1 h2
      exact absurd (by rw [hS.2.1, hT.2.1]; exact m3) c3
  · intro s t cx cu cs ct c1 c2 c3 c4
    have hS := R.s cs
    have hT := R.s ct
    have hB : ¬ (sp_var x 4 = 0 ∨ sp_var u 4 = 0) := by
      rw [cx, cu, sp_var_in cs (by omega), sp_var_in ct (by omega)]; decide
    refine hQ _ _ _ (fun Q' k => tX8_copy R.1.2.1 R.l8 (by omega) ?_ ?_ ?_ ?_ ?_)
    · intro e; exact absurd e hB
    · intro s' t' mx mu ms mt m1
      have h1 : s' = s := (nI_eq (by omega) (by omega)).mp (by rw [← mx, ← cx])
      have h2 : t' = t := (nI_eq (by omega) (by omega)).mp (by rw [← mu, ← cu])
      subst h1 h2
      exact absurd m1 (by rintro (e | e); exact c1 (hS.1.mpr e); exact c2 (hT.1.mpr e))
    · intro s' t' mx mu ms mt m1 m2 m3
      have h1 : s' = s := (nI_eq (by omega) (by omega)).mp (by rw [← mx, ← cx])
      have h2 : t' = t := (nI_eq (by omega) (by omega)).mp (by rw [← mu, ← cu])
      subst h1 h2
      exact absurd (by rw [← hS.2.1, ← hT.2.1]; exact c3) m3
    · intro _ _ _ _ _ _ _ _ _ _; exact k _ _ _ R (Nat.le_add_right _ _)
    · intro s' i t' j q mx mu ms mt m1 m2 m3 my mw mv e1 e2
      have h1 : s' = s := (nI_eq (by omega) (by omega)).mp (by rw [← mx, ← cx])
      have h2 : t' = t := (nI_eq (by omega) (by omega)).mp (by rw [← mu, ← cu])
      subst h1 h2
      exact absurd ((hro _ _ cs ct).mp c4) (hno _ _ q i j cs ct my mw mv e1 e2)
  · intro s i t j q cx cu cs ct c1 c2 c3 cy cw cv e1 e2
    have hS := R.s cs
    have hT := R.s ct
    have hB : ¬ (sp_var x 4 = 0 ∨ sp_var u 4 = 0) := by
      rw [cx, cu, sp_var_in cs (by omega), sp_var_in ct (by omega)]; decide
    rw [hS.2.2.1] at e1
    rw [hT.2.2.1] at e2
    refine hQ _ _ _ (fun Q' k => tX8_copy R.1.2.1 R.l8 (by omega) ?_ ?_ ?_ ?_ ?_)
    · intro e; exact absurd e hB
    · intro s' t' mx mu ms mt m1
      have h1 : s' = s := (nI_eq (by omega) (by omega)).mp (by rw [← mx, ← cx])
      have h2 : t' = t := (nI_eq (by omega) (by omega)).mp (by rw [← mu, ← cu])
      subst h1 h2
      exact absurd m1 (by rintro (e | e); exact c1 (hS.1.mpr e); exact c2 (hT.1.mpr e))
    · intro s' t' mx mu ms mt m1 m2 m3
      have h1 : s' = s := (nI_eq (by omega) (by omega)).mp (by rw [← mx, ← cx])
      have h2 : t' = t := (nI_eq (by omega) (by omega)).mp (by rw [← mu, ← cu])
      subst h1 h2
      exact absurd (by rw [← hS.2.1, ← hT.2.1]; exact c3) m3
    · intro s' t' mx mu ms mt m1 m2 m3 m4
      have h1 : s' = s := (nI_eq (by omega) (by omega)).mp (by rw [← mx, ← cx])
      have h2 : t' = t := (nI_eq (by omega) (by omega)).mp (by rw [← mu, ← cu])
      subst h1 h2
      exact absurd m4 (hno _ _ q i j cs ct cy cw cv e1 e2)
    · intro s' i' t' j' q' mx mu ms mt m1 m2 m3 my mw mv f1 f2
      obtain ⟨E1, _, h1a, h1b⟩ := e1
      obtain ⟨E2, _, h2a, h2b⟩ := e2
      obtain ⟨F1, _, g1a, g1b⟩ := f1
      obtain ⟨F2, _, g2a, g2b⟩ := f2
      have h1 : s' = s := (nI_eq (by omega) (by omega)).mp (by rw [← mx, ← cx])
      have h2 : t' = t := (nI_eq (by omega) (by omega)).mp (by rw [← mu, ← cu])
      have h3 : i' = i := (nI_eq (by omega) (by omega)).mp (by rw [← my, ← cy])
      have h4 : j' = j := (nI_eq (by omega) (by omega)).mp (by rw [← mw, ← cw])
      have h5 : q' = q := (nI_eq (by omega) (by omega)).mp (by rw [← mv, ← cv])
      subst h1 h2 h3 h4 h5
      refine k _ _ _ (R.sheet (fun a k e => rfl) (fun a k e => by rw [aw_cp_off _ (by omega), aw_cp_off _ (by omega)]) (fun z hz => ?_)) (Nat.le_add_right _ _)
      obtain ⟨r1, r2, r3, r4, r5⟩ := R.2.2.2.1 z hz
      refine ⟨r1, r2, r3, r4, fun p hp => ?_⟩
      rw [aw_cp_off (aw_cp J 59 59 (s' * 12 + i') (t' * 12 + j') q') (a := 59) (by omega)]
      have l1 : aw_cp J 59 59 (s' * 12 + i') (t' * 12 + j') q' 59 (z * 12 + p) = if z = t' ∧ j' ≤ p ∧ p < j' + q' then J 59 (s' * 12 + (i' + (p - j'))) else J 59 (z * 12 + p) := by
        unfold aw_cp
        by_cases e : z = t' ∧ j' ≤ p ∧ p < j' + q'
        · rw [if_pos (by omega), if_pos e]
          congr 1
          omega
        · rw [if_neg (by omega), if_neg e]
      have l2 : aw_cp (aw_cp J 59 59 (s' * 12 + i') (t' * 12 + j') q') 83 83 (12 * s' + i') (12 * t' + j') q' 83 (12 * z + p) = if z = t' ∧ j' ≤ p ∧ p < j' + q' then J 83 (12 * s' + (i' + (p - j'))) else J 83 (12 * z + p) := by
        rw [show ∀ X : aw_MJ, aw_cp X 83 83 (12 * s' + i') (12 * t' + j') q' 83 (12 * z + p) = if 83 = 83 ∧ 12 * t' + j' ≤ 12 * z + p ∧ 12 * z + p < 12 * t' + j' + q' then X 83 (12 * s' + i' + (12 * z + p - (12 * t' + j'))) else X 83 (12 * z + p) from fun _ => rfl]
        rw [aw_cp_off _ (by omega)]
        by_cases e : z = t' ∧ j' ≤ p ∧ p < j' + q'
        · rw [if_pos (by omega), if_pos e]
          congr 1
          omega
        · rw [if_neg (by omega), if_neg e]
      rw [l1, l2]
      by_cases e : z = t' ∧ j' ≤ p ∧ p < j' + q'
      · rw [if_pos e, if_pos e]
        exact hS.2.2.2 _ (by omega)
      · rw [if_neg e, if_neg e]
        exact r5 p hp

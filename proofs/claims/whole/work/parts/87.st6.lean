theorem st_drop {G : aw_G} {d : Nat} {Ω : aw_O} {I : aw_MI} {J : aw_MJ} {Q : Int32 → aw_O → aw_MI → aw_MJ → Prop} {x : Int32} (R : Rel Ω I J) (hd : 160 ≤ d) (hQ : ∀ z I1 J1, pr_I G MX8_drop d 0 0 [.ref (aw_ad G 65), .int x] z Ω I1 J1 → Q z Ω I1 J1) : aw_Call G MX7_drop d 0 0 [.ref (aw_ad G 0), .int x] Ω I J (aw_QI Q) := by
  obtain ⟨n, m, t, ⟨hM, hW, hx⟩, hs, hq, hpp, hL⟩ := R.g
  have hs2 := hs
  obtain ⟨⟨n1, n3, m6, t40⟩, hn, ht, hm, hn8, ht8, hm8⟩ := hs2
  refine tX7_drop hM hm m6 (by omega) ?_ ?_
  · intro cB
    refine hQ _ _ _ (fun Q' k => ?_)
    refine tX8_drop hW hm8 m6 (by omega) ?_ ?_
    · intro mB
      exact k _ _ _ R (Nat.le_add_right _ _)
    · intro l I2 mx ml _ _
      rw [mx, sp_var_in ml (by omega)] at cB; exact absurd cB (by decide)
  · intro l cx cl
    refine hQ _ _ _ (fun Q' k => ?_)
    generalize hI1 : aw_up (aw_cp (aw_cp (aw_cp (aw_cp I (4) (4) (l + 1) (l) (m - l - 1)) (5) (5) (l + 1) (l) (m - l - 1)) (6) (6) (l + 1) (l) (m - l - 1)) (7) (7) ((l + 1) * 3) (l * 3) ((m - l - 1) * 3)) 1 2 (nI (m - 1)) = I1 at k
    have g : ∀ a k, ¬ (a = 1 ∧ k = 2) → a < 4 ∨ 7 < a → I1 a k = I a k := fun a k _ _ => by
      rw [← hI1, aw_up_ne _ _ (by omega), aw_cp_off _ (by omega), aw_cp_off _ (by omega), aw_cp_off _ (by omega), aw_cp_off _ (by omega)]
    have g12 : I1 1 2 = nI (m - 1) := by rw [← hI1, aw_up_self]
    have g4 : ∀ k, k < m - 1 → I1 4 k = if l ≤ k then I 4 (k + 1) else I 4 k := fun k hk => by
      rw [← hI1, aw_up_ne _ _ (by omega), aw_cp_off _ (by omega), aw_cp_off _ (by omega), aw_cp_off _ (by omega)]
      unfold aw_cp
      by_cases e : l ≤ k
      · rw [if_pos (by omega), if_pos e, show l + 1 + (k - l) = k + 1 by omega]
      · rw [if_neg (by omega), if_neg e]
    have g5 : ∀ k, k < m - 1 → I1 5 k = if l ≤ k then I 5 (k + 1) else I 5 k := fun k hk => by
      rw [← hI1, aw_up_ne _ _ (by omega), aw_cp_off _ (by omega), aw_cp_off _ (by omega)]
      rw [show ∀ X : aw_MI, aw_cp X 5 5 (l + 1) l (m - l - 1) 5 k = if 5 = 5 ∧ l ≤ k ∧ k < l + (m - l - 1) then X 5 (l + 1 + (k - l)) else X 5 k from fun _ => rfl]
      by_cases e : l ≤ k
      · rw [if_pos (by omega), if_pos e, show l + 1 + (k - l) = k + 1 by omega, aw_cp_off _ (by omega)]
      · rw [if_neg (by omega), if_neg e, aw_cp_off _ (by omega)]
    have g6 : ∀ k, k < m - 1 → I1 6 k = if l ≤ k then I 6 (k + 1) else I 6 k := fun k hk => by
      rw [← hI1, aw_up_ne _ _ (by omega), aw_cp_off _ (by omega)]
      rw [show ∀ X : aw_MI, aw_cp X 6 6 (l + 1) l (m - l - 1) 6 k = if 6 = 6 ∧ l ≤ k ∧ k < l + (m - l - 1) then X 6 (l + 1 + (k - l)) else X 6 k from fun _ => rfl]
      by_cases e : l ≤ k
      · rw [if_pos (by omega), if_pos e, show l + 1 + (k - l) = k + 1 by omega, aw_cp_off _ (by omega), aw_cp_off _ (by omega)]
      · rw [if_neg (by omega), if_neg e, aw_cp_off _ (by omega), aw_cp_off _ (by omega)]
    have g7 : ∀ k, k < (m - 1) * 3 → I1 7 k = if l * 3 ≤ k then I 7 (k + 3) else I 7 k := fun k hk => by
      rw [← hI1, aw_up_ne _ _ (by omega)]
      rw [show ∀ X : aw_MI, aw_cp X 7 7 ((l + 1) * 3) (l * 3) ((m - l - 1) * 3) 7 k = if 7 = 7 ∧ l * 3 ≤ k ∧ k < l * 3 + (m - l - 1) * 3 then X 7 ((l + 1) * 3 + (k - l * 3)) else X 7 k from fun _ => rfl]
      by_cases e : l * 3 ≤ k
      · rw [if_pos (by omega), if_pos e, show (l + 1) * 3 + (k - l * 3) = k + 3 by omega, aw_cp_off _ (by omega), aw_cp_off _ (by omega), aw_cp_off _ (by omega)]
      · rw [if_neg (by omega), if_neg e, aw_cp_off _ (by omega), aw_cp_off _ (by omega), aw_cp_off _ (by omega)]
    refine tX8_drop hW (m := m) (by rw [g _ _ (by omega) (by omega)]; exact hm8) m6 (by omega) ?_ ?_
    · intro e
      rw [cx, sp_var_in cl (by omega)] at e; exact absurd e (by decide)
    · intro l' I2 mx ml f1 f2
      have h1 : l' = l := (nI_eq (by omega) (by omega)).mp (by rw [← mx, ← cx])
      subst h1
      have f : ∀ a k, ¬ (a = 65 ∧ k = 4) → a ≠ 68 → I2 a k = I1 a k := fun a k _ e => by rw [f1 a e, aw_up_ne _ _ (by omega)]
      have f68 : ∀ j, I2 68 j = if 6 * l' ≤ j ∧ j < 6 * (m - 1) then I 68 (j + 6) else I 68 j := fun j => by
        rw [f2 j, g _ _ (by omega) (by omega), g _ _ (by omega) (by omega)]
      refine k _ _ _ (R.bowl (n := n) (m := m - 1) (t := t) ?_ (fun a k e => by rw [f _ _ (by omega) (by omega), g _ _ (by omega) (by omega)])) (Nat.le_add_right _ _)
      refine bw_of ⟨⟨n1, n3, by omega, t40⟩, ?_, ?_, ?_, ?_, ?_, ?_⟩ (hq.c (fun a k _ => by rw [f _ _ (by omega) (by omega), g _ _ (by omega) (by omega)])) (hpp.c (fun a k _ => by rw [f _ _ (by omega) (by omega), g _ _ (by omega) (by omega)])) (fun q hq => ?_)
      · rw [f _ _ (by omega) (by omega), g _ _ (by omega) (by omega)]; exact hn
      · rw [f _ _ (by omega) (by omega), g _ _ (by omega) (by omega)]; exact ht
      · rw [f _ _ (by omega) (by omega), g12]
      · rw [f _ _ (by omega) (by omega), g _ _ (by omega) (by omega)]; exact hn8
      · rw [f _ _ (by omega) (by omega), g _ _ (by omega) (by omega)]; exact ht8
      · rw [f1 65 (by omega), aw_up_self]
      · by_cases e : l' ≤ q
        · obtain ⟨⟨q1, q2, q3, q4⟩, q5, q6, q7⟩ := hL (q + 1) (by omega)
          have s0 : ∀ o, o < 6 → I2 68 (6 * q + o) = I 68 (6 * (q + 1) + o) := fun o ho => by
            rw [f68, if_pos (by omega)]
            congr 1
            omega
          refine ⟨⟨?_, ?_, ?_, fun i hi => ?_⟩, ?_, ?_, fun i hi => ?_⟩
          · rw [f _ _ (by omega) (by omega), g4 q hq, if_pos e, q1]; exact (s0 0 (by omega)).symm
          · rw [f _ _ (by omega) (by omega), g5 q hq, if_pos e, q2]; exact (s0 1 (by omega)).symm
          · rw [f _ _ (by omega) (by omega), g6 q hq, if_pos e, q3]; exact (s0 2 (by omega)).symm
          · rw [f _ _ (by omega) (by omega), g7 _ (by omega), if_pos (by omega), show q * 3 + i + 3 = (q + 1) * 3 + i by omega, q4 i hi, Nat.add_assoc (6 * q) 3 i, s0 (3 + i) (by omega), Nat.add_assoc]
          · rw [s0 1 (by omega)]; exact q5
          · rw [s0 2 (by omega)]; exact q6
          · rw [Nat.add_assoc, s0 (3 + i) (by omega), ← Nat.add_assoc]; exact q7 i hi
        · obtain ⟨⟨q1, q2, q3, q4⟩, q5, q6, q7⟩ := hL q (by omega)
          have s0 : ∀ o, o < 6 → I2 68 (6 * q + o) = I 68 (6 * q + o) := fun o ho => by
            rw [f68, if_neg (by omega)]
          refine ⟨⟨?_, ?_, ?_, fun i hi => ?_⟩, ?_, ?_, fun i hi => ?_⟩
          · rw [f _ _ (by omega) (by omega), g4 q hq, if_neg e, q1]; exact (s0 0 (by omega)).symm
          · rw [f _ _ (by omega) (by omega), g5 q hq, if_neg e, q2]; exact (s0 1 (by omega)).symm
          · rw [f _ _ (by omega) (by omega), g6 q hq, if_neg e, q3]; exact (s0 2 (by omega)).symm
          · rw [f _ _ (by omega) (by omega), g7 _ (by omega), if_neg (by omega), q4 i hi, Nat.add_assoc (6 * q) 3 i, s0 (3 + i) (by omega)]
          · rw [s0 1 (by omega)]; exact q5
          · rw [s0 2 (by omega)]; exact q6
          · rw [Nat.add_assoc, s0 (3 + i) (by omega), ← Nat.add_assoc]; exact q7 i hi
theorem st_notes {G : aw_G} {d : Nat} {Ω : aw_O} {I : aw_MI} {J : aw_MJ} {Q : Int32 → aw_O → aw_MI → aw_MJ → Prop} (R : Rel Ω I J) (hQ : ∀ z I1 J1, pr_I G MX8_notes d 0 0 [.ref (aw_ad G 65)] z Ω I1 J1 → Q z Ω I1 J1) : aw_Call G MX7_notes d 0 0 [.ref (aw_ad G 0)] Ω I J (aw_QI Q) := by
  refine tX7_notes R.1.1 (hQ _ _ _ (fun Q' k => tX8_notes R.1.2.1 ?_))
  rw [← R.2.2.2.2.1]
  exact k _ _ _ R (Nat.le_add_right _ _)
theorem st_mark {G : aw_G} {d : Nat} {Ω : aw_O} {I : aw_MI} {J : aw_MJ} {Q : Int64 → aw_O → aw_MI → aw_MJ → Prop} (R : Rel Ω I J) (hQ : ∀ z I1 J1, pr_L G MX8_mark d 0 0 [.ref (aw_ad G 65)] z Ω I1 J1 → Q z Ω I1 J1) : aw_Call G MX7_mark d 0 0 [.ref (aw_ad G 0)] Ω I J (aw_QL Q) := by
  refine tX7_mark R.1.1 (hQ _ _ _ (fun Q' k => tX8_mark R.1.2.1 ?_))
  rw [← R.2.2.2.2.2.1]
  exact k _ _ _ R (Nat.le_add_right _ _)
theorem var8 {x : Int32} : sp_var x 8 = 0 ↔ x < 0 ∨ ¬ x < nI 8 := by
  constructor
  · intro h
    by_cases e : x < 0
    · exact Or.inl e
    · exact Or.inr (fun e2 => sp_var_of e e2 h)
  · rintro (h | h)
    · exact sp_var_lt h
    · exact sp_var_ge h
theorem st_trail {G : aw_G} {d : Nat} {Ω : aw_O} {I : aw_MI} {J : aw_MJ} {Q : Int32 → aw_O → aw_MI → aw_MJ → Prop} {x : Int32} (R : Rel Ω I J) (hd : 160 ≤ d) (hQ : ∀ z I1 J1, pr_I G MX8_trail d 0 0 [.ref (aw_ad G 65), .int x] z Ω I1 J1 → Q z Ω I1 J1) : aw_Call G MX7_trail d 0 0 [.ref (aw_ad G 0), .int x] Ω I J (aw_QI Q) := by
  obtain ⟨g1, g2, g3, g4, g5, g6⟩ := R.2.2.2.2
  refine tX7_trail R.1.1 (by omega) ?_ ?_
  · intro cB
    refine hQ _ _ _ (fun Q' k => tX8_trail R.1.2.1 (by omega) ?_ ?_)
    · intro _
      exact k _ _ _ R (Nat.le_add_right _ _)
    · intro j mx mj ml
      rw [g1] at cB
      rcases cB with e | e | e
      · have := var8.mpr (Or.inl e)
        rw [mx, sp_var_in mj (by omega)] at this; exact absurd this (by decide)
      · have := var8.mpr (Or.inr e)
        rw [mx, sp_var_in mj (by omega)] at this; exact absurd this (by decide)
      · exact absurd ml e
  · intro j cx cj cl
    refine hQ _ _ _ (fun Q' k => tX8_trail R.1.2.1 (by omega) ?_ ?_)
    · intro e
      rw [g1] at cl
      rcases e with e | e
      · rw [cx, sp_var_in cj (by omega)] at e; exact absurd e (by decide)
      · exact absurd cl e
    · intro j' mx mj ml
      have h1 : j' = j := (nI_eq (by omega) (by omega)).mp (by rw [← mx, ← cx])
      subst h1
      rw [← g6 j' mj]
      exact k _ _ _ R (Nat.le_add_right _ _)
theorem st_least {G : aw_G} {d : Nat} {Ω : aw_O} {I : aw_MI} {J : aw_MJ} {Q : Int64 → aw_O → aw_MI → aw_MJ → Prop} {x : Int32} (R : Rel Ω I J) (hd : 160 ≤ d) (hQ : ∀ z I1 J1, pr_L G MX8_least d 0 0 [.ref (aw_ad G 65), .int x] z Ω I1 J1 → Q z Ω I1 J1) : aw_Call G MX7_least d 0 0 [.ref (aw_ad G 0), .int x] Ω I J (aw_QL Q) := by
  obtain ⟨g1, g2, g3, g4, g5, g6⟩ := R.2.2.2.2
  refine tX7_least R.1.1 (by omega) ?_ ?_ ?_
  · intro c1
    refine hQ _ _ _ (fun Q' k => tX8_least R.1.2.1 (by omega) ?_ ?_ ?_)
    · intro _
      exact k _ _ _ R (Nat.le_add_right _ _)
    · intro e; exact absurd c1 e
    · intro e; exact absurd c1 e
  · intro c1 c2
    refine hQ _ _ _ (fun Q' k => tX8_least R.1.2.1 (by omega) ?_ ?_ ?_)
    · intro e; exact absurd e c1
    · intro _ _
      exact k _ _ _ R (Nat.le_add_right _ _)
    · intro _ e; exact absurd (by rw [← g4]; exact c2) e
  · intro c1 c2
    refine hQ _ _ _ (fun Q' k => tX8_least R.1.2.1 (by omega) ?_ ?_ ?_)
    · intro e; exact absurd e c1
    · intro _ e; exact absurd (by rw [g4]; exact e) c2
    · intro _ e
      rcases g5 with g5 | g5
      · exact absurd g5 e
      · rw [← told_lw (by omega) (by have := pos64 g5.1; exact this), ← g3, ← g4]
        exact k _ _ _ R (Nat.le_add_right _ _)

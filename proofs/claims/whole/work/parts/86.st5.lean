theorem st_line {G : aw_G} {d : Nat} {Ω : aw_O} {I : aw_MI} {J : aw_MJ} {Q : Int32 → aw_O → aw_MI → aw_MJ → Prop} {x y v : Int32} (R : Rel Ω I J) (hd : 160 ≤ d) (hQ : ∀ z I1 J1, pr_I G MX8_line d 0 0 [.ref (aw_ad G 65), .int x, .int y, .int v] z Ω I1 J1 → Q z Ω I1 J1) : aw_Call G MX7_line d 0 0 [.ref (aw_ad G 0), .int x, .int y, .int v] Ω I J (aw_QI Q) := by
  obtain ⟨n, m, t, ⟨hM, hW, hx⟩, hs, hq, hpp, hL⟩ := R.g
  have hs2 := hs
  obtain ⟨⟨n1, n3, m6, t40⟩, hn, ht, hm, hn8, ht8, hm8⟩ := hs2
  refine tX7_line hM hm m6 (by omega) ?_ ?_ ?_
  · intro cB
    refine hQ _ _ _ (fun Q' k => ?_)
    refine tX8_line hW hm8 m6 (by omega) ?_ ?_ ?_
    · intro mB
      exact k _ _ _ R (Nat.le_add_right _ _)
    · intro a1 a2 a3 _
      exact absurd cB (by rintro (e | e | e); exact a1 e; exact a2 e; exact a3 e)
    · intro a1 a2 a3 _
      exact absurd cB (by rintro (e | e | e); exact a1 e; exact a2 e; exact a3 e)
  · intro a1 a2 a3 c6
    refine hQ _ _ _ (fun Q' k => ?_)
    refine tX8_line hW hm8 m6 (by omega) ?_ ?_ ?_
    · intro cB
      exact absurd cB (by rintro (e | e | e); exact a1 e; exact a2 e; exact a3 e)
    · intro _ _ _ _
      exact k _ _ _ R (Nat.le_add_right _ _)
    · intro _ _ _ h
      exact absurd h (by omega)
  · intro a1 a2 a3 c6
    refine hQ _ _ _ (fun Q' k => ?_)
    generalize hI1 : aw_up (aw_wr (aw_up (aw_up (aw_up I 4 m x) 5 m y) 6 m v) 7 (m * 3) 3 (fun _ => nI 0)) 1 2 (nI (m + 1)) = I1 at k
    have g : ∀ a k, ¬ (a = 1 ∧ k = 2) → ¬ ((a = 4 ∨ a = 5 ∨ a = 6) ∧ k = m) → ¬ (a = 7 ∧ m * 3 ≤ k ∧ k < m * 3 + 3) → I1 a k = I a k := fun a k _ _ _ => by
      rw [← hI1, aw_up_ne _ _ (by omega)]
      unfold aw_wr
      rw [if_neg (by omega), aw_up_ne _ _ (by omega), aw_up_ne _ _ (by omega), aw_up_ne _ _ (by omega)]
    have g12 : I1 1 2 = nI (m + 1) := by rw [← hI1, aw_up_self]
    have g4 : I1 4 m = x := by rw [← hI1, aw_up_ne _ _ (by omega), aw_wr_off _ _ (by omega), aw_up_ne _ _ (by omega), aw_up_ne _ _ (by omega), aw_up_self]
    have g5 : I1 5 m = y := by rw [← hI1, aw_up_ne _ _ (by omega), aw_wr_off _ _ (by omega), aw_up_ne _ _ (by omega), aw_up_self]
    have g6 : I1 6 m = v := by rw [← hI1, aw_up_ne _ _ (by omega), aw_wr_off _ _ (by omega), aw_up_self]
    have g7 : ∀ i, i < 3 → I1 7 (m * 3 + i) = nI 0 := fun i hi => by rw [← hI1, aw_up_ne _ _ (by omega), aw_wr_in _ _ hi]
    refine tX8_line hW (m := m) (by rw [g _ _ (by omega) (by omega) (by omega)]; exact hm8) m6 (by omega) ?_ ?_ ?_
    · intro cB
      exact absurd cB (by rintro (e | e | e); exact a1 e; exact a2 e; exact a3 e)
    · intro _ _ _ h
      exact absurd h (by omega)
    · intro _ _ _ _
      generalize hI2 : aw_up (aw_wr (aw_up (aw_up (aw_up I1 68 (6 * m) x) 68 (6 * m + 1) y) 68 (6 * m + 2) v) 68 (6 * m + 3) 3 (fun _ => nI 0)) 65 4 (nI (m + 1)) = I2
      have f : ∀ a k, ¬ (a = 65 ∧ k = 4) → ¬ (a = 68 ∧ 6 * m ≤ k ∧ k < 6 * m + 6) → I2 a k = I1 a k := fun a k _ _ => by
        rw [← hI2, aw_up_ne _ _ (by omega)]
        unfold aw_wr
        rw [if_neg (by omega), aw_up_ne _ _ (by omega), aw_up_ne _ _ (by omega), aw_up_ne _ _ (by omega)]
      have f0 : I2 68 (6 * m) = x := by rw [← hI2, aw_up_ne _ _ (by omega), aw_wr_lo _ _ (by omega), aw_up_ne _ _ (by omega), aw_up_ne _ _ (by omega), aw_up_self]
      have f1 : I2 68 (6 * m + 1) = y := by rw [← hI2, aw_up_ne _ _ (by omega), aw_wr_lo _ _ (by omega), aw_up_ne _ _ (by omega), aw_up_self]
      have f2 : I2 68 (6 * m + 2) = v := by rw [← hI2, aw_up_ne _ _ (by omega), aw_wr_lo _ _ (by omega), aw_up_self]
      have f3 : ∀ i, i < 3 → I2 68 (6 * m + 3 + i) = nI 0 := fun i hi => by rw [← hI2, aw_up_ne _ _ (by omega), aw_wr_in _ _ hi]
      refine k _ _ _ (R.bowl (n := n) (m := m + 1) (t := t) ?_ (fun a k e => by rw [f _ _ (by omega) (by omega), g _ _ (by omega) (by omega) (by omega)])) (Nat.le_add_right _ _)
      refine bw_of ⟨⟨n1, n3, by omega, t40⟩, ?_, ?_, ?_, ?_, ?_, ?_⟩ (hq.c (fun a k _ => by rw [f _ _ (by omega) (by omega), g _ _ (by omega) (by omega) (by omega)])) (hpp.c (fun a k _ => by rw [f _ _ (by omega) (by omega), g _ _ (by omega) (by omega) (by omega)])) (fun l hl => ?_)
      · rw [f _ _ (by omega) (by omega), g _ _ (by omega) (by omega) (by omega)]; exact hn
      · rw [f _ _ (by omega) (by omega), g _ _ (by omega) (by omega) (by omega)]; exact ht
      · rw [f _ _ (by omega) (by omega), g12]
      · rw [f _ _ (by omega) (by omega), g _ _ (by omega) (by omega) (by omega)]; exact hn8
      · rw [f _ _ (by omega) (by omega), g _ _ (by omega) (by omega) (by omega)]; exact ht8
      · rw [← hI2, aw_up_self]
      · by_cases e : l = m
        · subst e
          refine ⟨⟨?_, ?_, ?_, fun i hi => ?_⟩, ?_, ?_, fun i hi => ?_⟩
          · rw [f _ _ (by omega) (by omega), g4, f0]
          · rw [f _ _ (by omega) (by omega), g5, f1]
          · rw [f _ _ (by omega) (by omega), g6, f2]
          · rw [f _ _ (by omega) (by omega), g7 i hi, f3 i hi]
          · rw [f1]; exact wi_b (by decide) a2
          · rw [f2]; exact wi_b (by decide) a3
          · rw [f3 i hi]; decide
        · have hl2 : l < m := by omega
          obtain ⟨⟨q1, q2, q3, q4⟩, q5, q6, q7⟩ := hL l hl2
          have fg : ∀ a k, ¬ (a = 65 ∧ k = 4) → ¬ (a = 68 ∧ 6 * m ≤ k ∧ k < 6 * m + 6) → ¬ (a = 1 ∧ k = 2) → ¬ ((a = 4 ∨ a = 5 ∨ a = 6) ∧ k = m) → ¬ (a = 7 ∧ m * 3 ≤ k ∧ k < m * 3 + 3) → I2 a k = I a k := fun a k e1 e2 e3 e4 e5 => by rw [f a k e1 e2, g a k e3 e4 e5]
          refine ⟨⟨?_, ?_, ?_, fun i hi => ?_⟩, ?_, ?_, fun i hi => ?_⟩
          · rw [fg _ _ (by omega) (by omega) (by omega) (by omega) (by omega), fg _ _ (by omega) (by omega) (by omega) (by omega) (by omega)]; exact q1
          · rw [fg _ _ (by omega) (by omega) (by omega) (by omega) (by omega), fg _ _ (by omega) (by omega) (by omega) (by omega) (by omega)]; exact q2
          · rw [fg _ _ (by omega) (by omega) (by omega) (by omega) (by omega), fg _ _ (by omega) (by omega) (by omega) (by omega) (by omega)]; exact q3
          · rw [fg _ _ (by omega) (by omega) (by omega) (by omega) (by omega), fg _ _ (by omega) (by omega) (by omega) (by omega) (by omega)]; exact q4 i hi
          · rw [fg _ _ (by omega) (by omega) (by omega) (by omega) (by omega)]; exact q5
          · rw [fg _ _ (by omega) (by omega) (by omega) (by omega) (by omega)]; exact q6
          · rw [fg _ _ (by omega) (by omega) (by omega) (by omega) (by omega)]; exact q7 i hi
theorem st_slope {G : aw_G} {d : Nat} {Ω : aw_O} {I : aw_MI} {J : aw_MJ} {Q : Int32 → aw_O → aw_MI → aw_MJ → Prop} {x y v : Int32} (R : Rel Ω I J) (hd : 160 ≤ d) (hQ : ∀ z I1 J1, pr_I G MX8_slope d 0 0 [.ref (aw_ad G 65), .int x, .int y, .int v] z Ω I1 J1 → Q z Ω I1 J1) : aw_Call G MX7_slope d 0 0 [.ref (aw_ad G 0), .int x, .int y, .int v] Ω I J (aw_QI Q) := by
  obtain ⟨n, m, t, ⟨hM, hW, hx⟩, hs, hq, hpp, hL⟩ := R.g
  have hs2 := hs
  obtain ⟨⟨n1, n3, m6, t40⟩, hn, ht, hm, hn8, ht8, hm8⟩ := hs2
  refine tX7_slope hM hm m6 (by omega) ?_ ?_
  · intro cB
    refine hQ _ _ _ (fun Q' k => ?_)
    refine tX8_slope hW hm8 m6 (by omega) ?_ ?_
    · intro mB
      exact k _ _ _ R (Nat.le_add_right _ _)
    · intro l i mx my ml mi mv
      rcases cB with e | e | e
      · rw [mx, sp_var_in ml (by omega)] at e; exact absurd e (by decide)
      · rw [my, sp_var_in mi (by omega)] at e; exact absurd e (by decide)
      · exact absurd e mv
  · intro l i cx cy cl ci cv
    refine hQ _ _ _ (fun Q' k => ?_)
    refine tX8_slope hW (m := m) (by rw [aw_up_ne _ _ (by omega)]; exact hm8) m6 (by omega) ?_ ?_
    · intro e
      rcases e with e | e | e
      · rw [cx, sp_var_in cl (by omega)] at e; exact absurd e (by decide)
      · rw [cy, sp_var_in ci (by omega)] at e; exact absurd e (by decide)
      · exact absurd e cv
    · intro l' i' mx my ml mi mv
      have h1 : l' = l := (nI_eq (by omega) (by omega)).mp (by rw [← mx, ← cx])
      have h2 : i' = i := (nI_eq (by omega) (by omega)).mp (by rw [← my, ← cy])
      subst h1 h2
      rw [aw_up_ne _ _ (by omega), ← (hL l' ml).1.2.2.2 i' mi]
      refine k _ _ _ (R.bowl (n := n) (m := m) (t := t) ?_ (fun a k e => by rw [aw_up_ne _ _ (by omega), aw_up_ne _ _ (by omega)])) (Nat.le_add_right _ _)
      have f : ∀ a k, ¬ (a = 7 ∧ k = l' * 3 + i') → ¬ (a = 68 ∧ k = 6 * l' + 3 + i') → aw_up (aw_up I 7 (l' * 3 + i') v) 68 (6 * l' + 3 + i') v a k = I a k := fun a k _ _ => by rw [aw_up_ne _ _ (by omega), aw_up_ne _ _ (by omega)]
      have f7 : aw_up (aw_up I 7 (l' * 3 + i') v) 68 (6 * l' + 3 + i') v 7 (l' * 3 + i') = v := by rw [aw_up_ne _ _ (by omega), aw_up_self]
      have f8 : aw_up (aw_up I 7 (l' * 3 + i') v) 68 (6 * l' + 3 + i') v 68 (6 * l' + 3 + i') = v := aw_up_self _ _ _ _
      generalize aw_up (aw_up I 7 (l' * 3 + i') v) 68 (6 * l' + 3 + i') v = I2 at f f7 f8
      refine bw_of (hs.c (fun a k _ => f a k (by omega) (by omega))) (hq.c (fun a k _ => f a k (by omega) (by omega))) (hpp.c (fun a k _ => f a k (by omega) (by omega))) (fun l hl => ?_)
      obtain ⟨⟨q1, q2, q3, q4⟩, q5, q6, q7⟩ := hL l hl
      refine ⟨⟨?_, ?_, ?_, fun i hi => ?_⟩, ?_, ?_, fun i hi => ?_⟩
      · rw [f _ _ (by omega) (by omega), f _ _ (by omega) (by omega)]; exact q1
      · rw [f _ _ (by omega) (by omega), f _ _ (by omega) (by omega)]; exact q2
      · rw [f _ _ (by omega) (by omega), f _ _ (by omega) (by omega)]; exact q3
      · by_cases e : l = l' ∧ i = i'
        · rw [e.1, e.2, f7, f8]
        · rw [f _ _ (by omega) (by omega), f _ _ (by omega) (by omega)]; exact q4 i hi
      · rw [f _ _ (by omega) (by omega)]; exact q5
      · rw [f _ _ (by omega) (by omega)]; exact q6
      · by_cases e : l = l' ∧ i = i'
        · rw [e.1, e.2, f8]; exact wi_b (by decide) mv
        · rw [f _ _ (by omega) (by omega)]; exact q7 i hi
theorem chg_b {c : Nat} {v : Int32} (hc : c < 3) (h : ¬ sp_chg (nI c) v = 0) : (c = 1 → v.toInt.natAbs ≤ 99) ∧ (c = 2 → v.toInt.natAbs ≤ 9) := by
  unfold sp_chg at h
  refine ⟨fun e => ?_, fun e => ?_⟩
  · subst e
    rw [if_neg (by decide), if_pos rfl] at h
    exact wi_b (by decide) h
  · subst e
    rw [if_neg (by decide), if_neg (by decide), if_pos rfl] at h
    exact wi_b (by decide) h
theorem st_change {G : aw_G} {d : Nat} {Ω : aw_O} {I : aw_MI} {J : aw_MJ} {Q : Int32 → aw_O → aw_MI → aw_MJ → Prop} {x y v : Int32} (R : Rel Ω I J) (hd : 160 ≤ d) (hQ : ∀ z I1 J1, pr_I G MX8_change d 0 0 [.ref (aw_ad G 65), .int x, .int y, .int v] z Ω I1 J1 → Q z Ω I1 J1) : aw_Call G MX7_change d 0 0 [.ref (aw_ad G 0), .int x, .int y, .int v] Ω I J (aw_QI Q) := by
  obtain ⟨n, m, t, ⟨hM, hW, hx⟩, hs, hq, hpp, hL⟩ := R.g
  have hs2 := hs
  obtain ⟨⟨n1, n3, m6, t40⟩, hn, ht, hm, hn8, ht8, hm8⟩ := hs2
  refine tX7_change hM hm m6 (by omega) ?_ ?_
  · intro cB
    refine hQ _ _ _ (fun Q' k => ?_)
    refine tX8_change hW hm8 m6 (by omega) ?_ ?_
    · intro mB
      exact k _ _ _ R (Nat.le_add_right _ _)
    · intro l c mx ml mv my mc
      rcases cB with e | e
      · rw [mx, sp_var_in ml (by omega)] at e; exact absurd e (by decide)
      · exact absurd e mv
  · intro l c cx cl cv cy cc
    refine hQ _ _ _ (fun Q' k => ?_)
    refine tX8_change hW (m := m) (by rw [aw_up_ne _ _ (by omega)]; exact hm8) m6 (by omega) ?_ ?_
    · intro e
      rcases e with e | e
      · rw [cx, sp_var_in cl (by omega)] at e; exact absurd e (by decide)
      · exact absurd e cv
    · intro l' c' mx ml mv my mc
      have h1 : l' = l := (nI_eq (by omega) (by omega)).mp (by rw [← mx, ← cx])
      have h2 : c' = c := (nI_eq (by omega) (by omega)).mp (by rw [← my, ← cy])
      subst h1 h2
      rw [my] at mv
      have hcb := chg_b mc mv
      have e1 : aw_up I (4 + c') l' v 68 (6 * l' + c') = I (4 + c') l' := by
        rw [aw_up_ne _ _ (by omega)]
        rcases (by omega : c' = 0 ∨ c' = 1 ∨ c' = 2) with e | e | e <;> subst e
        · exact ((hL l' ml).1.1).symm
        · exact ((hL l' ml).1.2.1).symm
        · exact ((hL l' ml).1.2.2.1).symm
      rw [e1]
      refine k _ _ _ (R.bowl (n := n) (m := m) (t := t) ?_ (fun a k e => by rw [aw_up_ne _ _ (by omega), aw_up_ne _ _ (by omega)])) (Nat.le_add_right _ _)
      have f : ∀ a k, ¬ (a = 4 + c' ∧ k = l') → ¬ (a = 68 ∧ k = 6 * l' + c') → aw_up (aw_up I (4 + c') l' v) 68 (6 * l' + c') v a k = I a k := fun a k _ _ => by rw [aw_up_ne _ _ (by omega), aw_up_ne _ _ (by omega)]
      have f7 : aw_up (aw_up I (4 + c') l' v) 68 (6 * l' + c') v (4 + c') l' = v := by rw [aw_up_ne _ _ (by omega), aw_up_self]
      have f8 : aw_up (aw_up I (4 + c') l' v) 68 (6 * l' + c') v 68 (6 * l' + c') = v := aw_up_self _ _ _ _
      generalize aw_up (aw_up I (4 + c') l' v) 68 (6 * l' + c') v = I2 at f f7 f8
      refine bw_of (hs.c (fun a k _ => f a k (by omega) (by omega))) (hq.c (fun a k _ => f a k (by omega) (by omega))) (hpp.c (fun a k _ => f a k (by omega) (by omega))) (fun l hl => ?_)
      obtain ⟨⟨q1, q2, q3, q4⟩, q5, q6, q7⟩ := hL l hl
      refine ⟨⟨?_, ?_, ?_, fun i hi => ?_⟩, ?_, ?_, fun i hi => ?_⟩
      · by_cases e : l = l' ∧ c' = 0
        · rw [e.2] at f7 f8
          rw [e.1]
          exact f7.trans f8.symm
        · rw [f _ _ (by omega) (by omega), f _ _ (by omega) (by omega)]; exact q1
      · by_cases e : l = l' ∧ c' = 1
        · rw [e.2] at f7 f8
          rw [e.1]
          exact f7.trans f8.symm
        · rw [f _ _ (by omega) (by omega), f _ _ (by omega) (by omega)]; exact q2
      · by_cases e : l = l' ∧ c' = 2
        · rw [e.2] at f7 f8
          rw [e.1]
          exact f7.trans f8.symm
        · rw [f _ _ (by omega) (by omega), f _ _ (by omega) (by omega)]; exact q3
      · rw [f _ _ (by omega) (by omega), f _ _ (by omega) (by omega)]; exact q4 i hi
      · by_cases e : l = l' ∧ c' = 1
        · have hb := hcb.1 e.2
          rw [e.2] at f8
          rw [e.1, f8]
          exact hb
        · rw [f _ _ (by omega) (by omega)]; exact q5
      · by_cases e : l = l' ∧ c' = 2
        · have hb := hcb.2 e.2
          rw [e.2] at f8
          rw [e.1, f8]
          exact hb
        · rw [f _ _ (by omega) (by omega)]; exact q6
      · rw [f _ _ (by omega) (by omega)]; exact q7 i hi

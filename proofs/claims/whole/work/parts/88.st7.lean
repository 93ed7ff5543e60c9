theorem ag.cnt {I I' : aw_MI} : ∀ {m : Nat}, (∀ l, l < m → I 4 l = I' 68 (6 * l)) → sp_cnt (I 4) m = sp_cnt (fun l => I' 68 (6 * l)) m
  | 0, _ => rfl
  | m + 1, h => by
    unfold sp_cnt
    rw [ag.cnt (fun l hl => h l (by omega)), h m (by omega)]
theorem st_count {G : aw_G} {d : Nat} {Ω : aw_O} {I : aw_MI} {J : aw_MJ} {Q : Int32 → aw_O → aw_MI → aw_MJ → Prop} {x : Int32} (R : Rel Ω I J) (hd : 160 ≤ d) (hQ : ∀ z I1 J1, pr_I G MX8_count d 0 0 [.ref (aw_ad G 65), .int x] z Ω I1 J1 → Q z Ω I1 J1) : aw_Call G MX7_count d 0 0 [.ref (aw_ad G 0), .int x] Ω I J (aw_QI Q) := by
  obtain ⟨n, m, t, ⟨hM, hW, hx⟩, ⟨n1, n3, m6, t40⟩, ⟨hn, ht, hm⟩, hF⟩ := R.f
  obtain ⟨⟨hn8, ht8, hm8⟩, a, r⟩ := hF I (vI.r I)
  have n01 : ¬ nI 0 = nI 1 := by decide
  have n02 : ¬ nI 0 = nI 2 := by decide
  have n03 : ¬ nI 0 = nI 3 := by decide
  have n12 : ¬ nI 1 = nI 2 := by decide
  have n13 : ¬ nI 1 = nI 3 := by decide
  have n23 : ¬ nI 2 = nI 3 := by decide
  refine tX7_count hM hn hm m6 ht (by omega) ?_ ?_ ?_ ?_ ?_
  · intro c
    refine hQ _ _ _ (fun Q' k => tX8_count hW hn8 hm8 m6 ht8 (by omega) ?_ ?_ ?_ ?_ ?_)
    · intro _; exact k _ _ _ R (Nat.le_add_right _ _)
    · intro e; exact absurd (c.symm.trans e) n01
    · intro e; exact absurd (c.symm.trans e) n02
    · intro e; exact absurd (c.symm.trans e) n03
    · intro e _ _ _; exact absurd c e
  · intro c
    refine hQ _ _ _ (fun Q' k => tX8_count hW hn8 hm8 m6 ht8 (by omega) ?_ ?_ ?_ ?_ ?_)
    · intro e; exact absurd (e.symm.trans c) n01
    · intro _; exact k _ _ _ R (Nat.le_add_right _ _)
    · intro e; exact absurd (c.symm.trans e) n12
    · intro e; exact absurd (c.symm.trans e) n13
    · intro _ e _ _; exact absurd c e
  · intro c
    refine hQ _ _ _ (fun Q' k => tX8_count hW hn8 hm8 m6 ht8 (by omega) ?_ ?_ ?_ ?_ ?_)
    · intro e; exact absurd (e.symm.trans c) n02
    · intro e; exact absurd (e.symm.trans c) n12
    · intro _; exact k _ _ _ R (Nat.le_add_right _ _)
    · intro e; exact absurd (c.symm.trans e) n23
    · intro _ _ e _; exact absurd c e
  · intro c
    refine hQ _ _ _ (fun Q' k => tX8_count hW hn8 hm8 m6 ht8 (by omega) ?_ ?_ ?_ ?_ ?_)
    · intro e; exact absurd (e.symm.trans c) n03
    · intro e; exact absurd (e.symm.trans c) n13
    · intro e; exact absurd (e.symm.trans c) n23
    · intro _
      rw [← ag.cnt (fun l hl => a.kd l hl)]
      exact k _ _ _ R (Nat.le_add_right _ _)
    · intro _ _ _ e; exact absurd c e
  · intro c0 c1 c2 c3
    refine hQ _ _ _ (fun Q' k => tX8_count hW hn8 hm8 m6 ht8 (by omega) ?_ ?_ ?_ ?_ ?_)
    · intro e; exact absurd e c0
    · intro e; exact absurd e c1
    · intro e; exact absurd e c2
    · intro e; exact absurd e c3
    · intro _ _ _ _; exact k _ _ _ R (Nat.le_add_right _ _)
theorem st_lineOf {G : aw_G} {d : Nat} {Ω : aw_O} {I : aw_MI} {J : aw_MJ} {Q : Int32 → aw_O → aw_MI → aw_MJ → Prop} {x y : Int32} (R : Rel Ω I J) (hd : 160 ≤ d) (hQ : ∀ z I1 J1, pr_I G MX8_lineOf d 0 0 [.ref (aw_ad G 65), .int x, .int y] z Ω I1 J1 → Q z Ω I1 J1) : aw_Call G MX7_lineOf d 0 0 [.ref (aw_ad G 0), .int x, .int y] Ω I J (aw_QI Q) := by
  obtain ⟨n, m, t, ⟨hM, hW, hx⟩, ⟨n1, n3, m6, t40⟩, ⟨hn, ht, hm⟩, hF⟩ := R.f
  obtain ⟨⟨hn8, ht8, hm8⟩, a, r⟩ := hF I (vI.r I)
  refine tX7_lineOf hM hn n3 hm m6 ht (by omega) ?_ ?_
  · intro cB
    refine hQ _ _ _ (fun Q' k => tX8_lineOf hW hn8 n3 hm8 m6 ht8 (by omega) ?_ ?_)
    · intro _; exact k _ _ _ R (Nat.le_add_right _ _)
    · intro l c mx ml my mc
      exfalso
      rcases cB with e | ⟨e0, e1, e2, e3, e4, e5, e6⟩
      · rw [mx, sp_var_in ml (by omega)] at e; exact absurd e (by decide)
      · rcases (by omega : c = 0 ∨ c = 1 ∨ c = 2 ∨ c = 3 ∨ c = 4 ∨ c = 5 ∨ c = 6) with e | e | e | e | e | e | e <;> rw [e] at my <;> contradiction
  · intro l c cx cl cy cc
    refine hQ _ _ _ (fun Q' k => tX8_lineOf hW hn8 n3 hm8 m6 ht8 (by omega) ?_ ?_)
    · intro e
      rcases e with e | e
      · rw [cx, sp_var_in cl (by omega)] at e; exact absurd e (by decide)
      · exact absurd (lh0.mp e) (nI_rg cy (by omega) cc (by omega))
    · intro l' c' mx ml my mc
      have h1 : l' = l := (nI_eq (by omega) (by omega)).mp (by rw [← mx, ← cx])
      have h2 : c' = c := (nI_eq (by omega) (by omega)).mp (by rw [← my, ← cy])
      subst h1 h2
      have e : sp_lo I n t l' c' = rp_lo I n t l' c' := by
        unfold sp_lo rp_lo
        by_cases c1 : c' < 3
        · rw [if_pos c1, if_pos c1]
          rcases (by omega : c' = 0 ∨ c' = 1 ∨ c' = 2) with e | e | e <;> rw [e]
          · exact a.kd l' ml
          · exact a.ba l' ml
          · exact a.dr l' ml
        · rw [if_neg c1, if_neg c1]
          by_cases c2 : c' = 3
          · rw [if_pos c2, if_pos c2]
            exact a.bd ml (nI t)
          · rw [if_neg c2, if_neg c2]
            unfold rp_row
            by_cases c3 : c' - 4 < n
            · rw [if_pos c3, if_pos c3, a.kd l' ml, a.sl l' _ ml c3]
            · rw [if_neg c3, if_neg c3]
      rw [← e]
      exact k _ _ _ R (Nat.le_add_right _ _)
theorem st_minor {G : aw_G} {d : Nat} {Ω : aw_O} {I : aw_MI} {J : aw_MJ} {Q : Int32 → aw_O → aw_MI → aw_MJ → Prop} {x : Int32} (R : Rel Ω I J) (hd : 160 ≤ d) (hQ : ∀ z I1 J1, pr_I G MX8_minor d 0 0 [.ref (aw_ad G 65), .int x] z Ω I1 J1 → Q z Ω I1 J1) : aw_Call G MX7_minor d 0 0 [.ref (aw_ad G 0), .int x] Ω I J (aw_QI Q) := by
  obtain ⟨n, m, t, ⟨hM, hW, hx⟩, ⟨n1, n3, m6, t40⟩, ⟨hn, ht, hm⟩, hF⟩ := R.f
  obtain ⟨⟨hn8, ht8, hm8⟩, a, r⟩ := hF I (vI.r I)
  refine tX7_minor hM hn n3 (by omega) ?_ ?_
  · intro cB
    refine hQ _ _ _ (fun Q' k => tX8_minor hW hn8 n3 (by omega) ?_ ?_)
    · intro _; exact k _ _ _ R (Nat.le_add_right _ _)
    · intro j I' J' mx mj1 mj _ _
      exact absurd cB (nI_rg mx mj1 mj (by omega))
  · intro j cx cj1 cj
    refine hQ _ _ _ (fun Q' k => tX8_minor hW hn8 n3 (by omega) ?_ ?_)
    · intro e
      exact absurd (lh0.mp e) (nI_rg cx cj1 cj (by omega))
    · intro j' I' J' mx mj1 mj mI mJ
      have h1 : j' = j := (nI_eq (by omega) (by omega)).mp (by rw [← mx, ← cx])
      subst h1
      have e : sp_minor (I 2) j' = rp_minor (I 66) j' := a.minor r mj1 mj
      rw [← e]
      exact k _ _ _ (R.v (mr_v mI) (mr_w mJ)) (Nat.le_add_right _ _)
theorem st_isProper {G : aw_G} {d : Nat} {Ω : aw_O} {I : aw_MI} {J : aw_MJ} {Q : Int32 → aw_O → aw_MI → aw_MJ → Prop} (R : Rel Ω I J) (hd : 160 ≤ d) (hQ : ∀ z I1 J1, pr_I G MX8_isProper d 0 0 [.ref (aw_ad G 65)] z Ω I1 J1 → Q z Ω I1 J1) : aw_Call G MX7_isProper d 0 0 [.ref (aw_ad G 0)] Ω I J (aw_QI Q) := by
  obtain ⟨n, m, t, ⟨hM, hW, hx⟩, ⟨n1, n3, m6, t40⟩, ⟨hn, ht, hm⟩, hF⟩ := R.f
  obtain ⟨⟨hn8, ht8, hm8⟩, a, r⟩ := hF I (vI.r I)
  refine tX7_isProper hM hn n3 (by omega) (hQ _ _ _ (fun Q' k => tX8_isProper hW hn8 n3 (by omega) ?_))
  intro I' J' mI mJ
  have e : sp_hl (I 2) 1 n = rp_ac (I 66) n := a.hl r
  rw [← e]
  exact k _ _ _ (R.v (mr_v mI) (mr_w mJ)) (Nat.le_add_right _ _)
theorem aw_cp_in {α : Type} (I : Nat → Nat → α) {s t sp dp n j : Nat} (h : j < n) : aw_cp I s t sp dp n t (dp + j) = I s (sp + j) := by
  unfold aw_cp
  rw [if_pos ⟨rfl, by omega, by omega⟩, show dp + j - dp = j by omega]
theorem aw_cp_in0 {α : Type} (I : Nat → Nat → α) {s t n j : Nat} (h : j < n) : aw_cp I s t 0 0 n t j = I s j := by
  have := aw_cp_in I (s := s) (t := t) (sp := 0) (dp := 0) h
  rwa [Nat.zero_add] at this
theorem aw_wr_in0 {α : Type} (I : Nat → Nat → α) {a n j : Nat} (f : Nat → α) (h : j < n) : aw_wr I a 0 n f a j = f j := by
  have := aw_wr_in I (a := a) (lo := 0) f h
  rwa [Nat.zero_add] at this
theorem st_image {G : aw_G} {d : Nat} {Ω : aw_O} {I : aw_MI} {J : aw_MJ} {Q : Int32 → aw_O → aw_MI → aw_MJ → Prop} (R : Rel Ω I J) (hd : 160 ≤ d) (hQ : ∀ z I1 J1, pr_I G MX8_image d 0 0 [.ref (aw_ad G 65)] z Ω I1 J1 → Q z Ω I1 J1) : aw_Call G MX7_image d 0 0 [.ref (aw_ad G 0)] Ω I J (aw_QI Q) := by
  obtain ⟨hw, ⟨n, m, t, hb⟩, him, hsh, hbo⟩ := R
  have hm : I 1 2 = nI m := hb.2.1.2.2.1
  have hm8 : I 65 4 = nI m := hb.2.1.2.2.2.2.2
  refine tX7_image hw.1 hm (by omega) (hQ _ _ _ (fun Q' k => tX8_image hw.2.1 ?_))
  generalize hI1 : aw_up (aw_cp (aw_cp (aw_cp (aw_cp (aw_cp (aw_cp (aw_up (aw_up (aw_up I 8 0 (I 1 0)) 8 1 (I 1 1)) 8 2 (I 1 2)) (2) (9) (0) (0) (9)) (3) (10) (0) (0) (3)) (4) (11) (0) (0) (6)) (5) (12) (0) (0) (6)) (6) (13) (0) (0) (6)) (7) (14) (0) (0) (18)) 0 8 (nI 1) = I1
  have g : ∀ a k, ¬ (a = 0 ∧ k = 8) → a < 8 ∨ 14 < a → I1 a k = I a k := fun a k _ _ => by
    rw [← hI1, aw_up_ne _ _ (by omega)]
    simp (disch := omega) only [aw_cp_off, aw_up_off]
  have g08 : I1 0 8 = nI 1 := by rw [← hI1, aw_up_self]
  have g8 : ∀ k, k < 3 → I1 8 k = I 1 k := fun k hk => by
    rw [← hI1, aw_up_ne _ _ (by omega)]
    simp (disch := omega) only [aw_cp_off]
    rcases (by omega : k = 0 ∨ k = 1 ∨ k = 2) with e | e | e <;> rw [e]
    · rw [aw_up_ne _ _ (by omega), aw_up_ne _ _ (by omega), aw_up_self]
    · rw [aw_up_ne _ _ (by omega), aw_up_self]
    · rw [aw_up_self]
  have g9 : ∀ k, k < 9 → I1 9 k = I 2 k := fun k hk => by
    rw [← hI1, aw_up_ne _ _ (by omega)]
    simp (disch := omega) only [aw_cp_off, aw_up_off, aw_cp_in0]
  have g10 : ∀ k, k < 3 → I1 10 k = I 3 k := fun k hk => by
    rw [← hI1, aw_up_ne _ _ (by omega)]
    simp (disch := omega) only [aw_cp_off, aw_up_off, aw_cp_in0]
  have g11 : ∀ k, k < 6 → I1 11 k = I 4 k := fun k hk => by
    rw [← hI1, aw_up_ne _ _ (by omega)]
    simp (disch := omega) only [aw_cp_off, aw_up_off, aw_cp_in0]
  have g12 : ∀ k, k < 6 → I1 12 k = I 5 k := fun k hk => by
    rw [← hI1, aw_up_ne _ _ (by omega)]
    simp (disch := omega) only [aw_cp_off, aw_up_off, aw_cp_in0]
  have g13 : ∀ k, k < 6 → I1 13 k = I 6 k := fun k hk => by
    rw [← hI1, aw_up_ne _ _ (by omega)]
    simp (disch := omega) only [aw_cp_off, aw_up_off, aw_cp_in0]
  have g14 : ∀ k, k < 18 → I1 14 k = I 7 k := fun k hk => by
    rw [← hI1, aw_up_ne _ _ (by omega)]
    simp (disch := omega) only [aw_cp_off, aw_up_off, aw_cp_in0]
  generalize hI2 : aw_wr (aw_wr (aw_wr (aw_up (aw_up (aw_up (aw_up I1 65 6 (nI 1)) 69 0 (I1 65 0)) 69 1 (I1 65 3)) 69 2 (I1 65 4)) 69 3 9 (I1 66)) 69 12 3 (I1 67)) 69 15 36 (I1 68) = I2
  have f : ∀ a k, ¬ (a = 65 ∧ k = 6) → a ≠ 69 → I2 a k = I1 a k := fun a k _ _ => by
    rw [← hI2, aw_wr_off _ _ (by omega), aw_wr_off _ _ (by omega), aw_wr_off _ _ (by omega), aw_up_ne _ _ (by omega), aw_up_ne _ _ (by omega), aw_up_ne _ _ (by omega), aw_up_ne _ _ (by omega)]
  have f6 : I2 65 6 = nI 1 := by
    rw [← hI2, aw_wr_off _ _ (by omega), aw_wr_off _ _ (by omega), aw_wr_off _ _ (by omega), aw_up_ne _ _ (by omega), aw_up_ne _ _ (by omega), aw_up_ne _ _ (by omega), aw_up_self]
  have f0 : I2 69 0 = I1 65 0 := by
    rw [← hI2, aw_wr_lo _ _ (by omega), aw_wr_lo _ _ (by omega), aw_wr_lo _ _ (by omega), aw_up_ne _ _ (by omega), aw_up_ne _ _ (by omega), aw_up_self]
  have f1 : I2 69 1 = I1 65 3 := by
    rw [← hI2, aw_wr_lo _ _ (by omega), aw_wr_lo _ _ (by omega), aw_wr_lo _ _ (by omega), aw_up_ne _ _ (by omega), aw_up_self]
  have f2 : I2 69 2 = I1 65 4 := by
    rw [← hI2, aw_wr_lo _ _ (by omega), aw_wr_lo _ _ (by omega), aw_wr_lo _ _ (by omega), aw_up_self]
  have f3 : ∀ k, k < 9 → I2 69 (3 + k) = I1 66 k := fun k hk => by
    rw [← hI2, aw_wr_lo _ _ (by omega), aw_wr_lo _ _ (by omega), aw_wr_in _ _ hk]
  have f12 : ∀ k, k < 3 → I2 69 (12 + k) = I1 67 k := fun k hk => by
    rw [← hI2, aw_wr_lo _ _ (by omega), aw_wr_in _ _ hk]
  have f15 : ∀ k, k < 36 → I2 69 (15 + k) = I1 68 k := fun k hk => by
    rw [← hI2, aw_wr_in _ _ hk]
  rw [show I1 65 4 = nI m by rw [g _ _ (by omega) (by omega)]; exact hm8]
  have fg : ∀ a k, ¬ (a = 65 ∧ k = 6) → ¬ (a = 0 ∧ k = 8) → a ≠ 69 → a < 8 ∨ 14 < a → I2 a k = I a k := fun a k e1 e2 e3 e4 => by rw [f a k e1 e3, g a k e2 e4]
  refine k _ _ _ ⟨hw, ⟨n, m, t, ?_⟩, ⟨?_, fun _ => ⟨n, m, t, ?_⟩⟩, fun s hs => ?_, ?_⟩ (Nat.le_add_right _ _)
  · exact bw_c hb (fun k _ => fg _ _ (by omega) (by omega) (by omega) (by omega)) (fun k _ => fg _ _ (by omega) (by omega) (by omega) (by omega)) (fun k _ => fg _ _ (by omega) (by omega) (by omega) (by omega)) (fun k _ => ⟨fg _ _ (by omega) (by omega) (by omega) (by omega), fg _ _ (by omega) (by omega) (by omega) (by omega), fg _ _ (by omega) (by omega) (by omega) (by omega)⟩) (fun k _ => fg _ _ (by omega) (by omega) (by omega) (by omega)) (fg _ _ (by omega) (by omega) (by omega) (by omega)) (fg _ _ (by omega) (by omega) (by omega) (by omega)) (fg _ _ (by omega) (by omega) (by omega) (by omega)) (fun k _ => fg _ _ (by omega) (by omega) (by omega) (by omega)) (fun k _ => fg _ _ (by omega) (by omega) (by omega) (by omega)) (fun k _ => fg _ _ (by omega) (by omega) (by omega) (by omega))
  · rw [f6, f _ _ (by omega) (by omega), g08]
  · exact bw_c hb (fun k hk => by rw [f _ _ (by omega) (by omega), g8 k hk]) (fun k hk => by rw [f _ _ (by omega) (by omega)]; exact g9 k hk) (fun k hk => by rw [f _ _ (by omega) (by omega)]; exact g10 k hk) (fun k hk => ⟨by rw [f _ _ (by omega) (by omega)]; exact g11 k hk, by rw [f _ _ (by omega) (by omega)]; exact g12 k hk, by rw [f _ _ (by omega) (by omega)]; exact g13 k hk⟩) (fun k hk => by rw [f _ _ (by omega) (by omega)]; exact g14 k hk) (by rw [f0, g _ _ (by omega) (by omega)]) (by rw [f1, g _ _ (by omega) (by omega)]) (by rw [f2, g _ _ (by omega) (by omega)]) (fun k hk => by rw [f3 k hk, g _ _ (by omega) (by omega)]) (fun k hk => by rw [f12 k hk, g _ _ (by omega) (by omega)]) (fun k hk => by rw [f15 k hk, g _ _ (by omega) (by omega)])
  · obtain ⟨q1, q2, q3, q4, q5⟩ := hsh s hs
    rw [fg 57 s (by omega) (by omega) (by omega) (by omega), fg 81 s (by omega) (by omega) (by omega) (by omega), fg 58 s (by omega) (by omega) (by omega) (by omega), fg 82 s (by omega) (by omega) (by omega) (by omega)]
    exact ⟨q1, q2, q3, q4, q5⟩
  · obtain ⟨q1, q2, q3, q4, q5, q6⟩ := hbo
    unfold re_bo
    rw [fg 64 0 (by omega) (by omega) (by omega) (by omega), fg 65 8 (by omega) (by omega) (by omega) (by omega)]
    exact ⟨q1, q2, q3, q4, q5, fun k hk => by rw [fg 70 k (by omega) (by omega) (by omega) (by omega)]; exact q6 k hk⟩

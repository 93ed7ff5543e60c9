/-! CALLS THAT CHANGE THE BOWL -/
theorem wi_b {v : Int32} {N : Nat} (hN : N < 1000) (h : ¬ sp_wi v (nI N) = 0) : v.toInt.natAbs ≤ N := by
  unfold sp_wi at h
  have e0 : (nI N).toInt = N := nI_toInt (by omega)
  have e1 : (-nI N).toInt = -N := by rw [neg32 (by omega), e0]
  by_cases c1 : v < -nI N
  · rw [if_pos c1] at h; exact absurd (by rfl) h
  · rw [if_neg c1] at h
    by_cases c2 : nI N < v
    · rw [if_pos c2] at h; exact absurd (by rfl) h
    · rw [Int32.lt_iff_toInt_lt] at c1 c2
      omega
theorem bend_b {v : Int32} {s : Prop} [Decidable s] (h : ¬ sp_bend (if s then nI 1 else nI 0) v = 0) : v.toInt.natAbs ≤ if s then 20 else 9 := by
  unfold sp_bend at h
  by_cases c : s
  · rw [if_pos c] at h ⊢
    rw [if_neg (by decide)] at h
    have e1 : (nI 1).toInt = 1 := rfl
    have e2 : (nI 20).toInt = 20 := rfl
    by_cases c1 : v < nI 1
    · rw [if_pos c1] at h; exact absurd (by rfl) h
    · rw [if_neg c1] at h
      by_cases c2 : nI 20 < v
      · rw [if_pos c2] at h; exact absurd (by rfl) h
      · rw [Int32.lt_iff_toInt_lt] at c1 c2
        omega
  · rw [if_neg c] at h ⊢
    rw [if_pos (by rfl)] at h
    exact wi_b (by decide) h
/-- only the bowl changed -/
theorem Rel.bowl {Ω : aw_O} {I I2 : aw_MI} {J : aw_MJ} {n m t : Nat} (R : Rel Ω I J) (hb : re_bw I2 n m t) (hi : ∀ a k, (a = 0 ∨ (8 ≤ a ∧ a ≤ 14) ∨ a = 57 ∨ a = 58 ∨ a = 64 ∨ (a = 65 ∧ (k = 6 ∨ k = 8)) ∨ a = 69 ∨ a = 70 ∨ a = 81 ∨ a = 82) → I2 a k = I a k) : Rel Ω I2 J := by
  obtain ⟨h1, -, h3, h4, h5⟩ := R
  refine ⟨h1, ⟨n, m, t, hb⟩, ⟨?_, fun e => ?_⟩, fun s hs => ?_, ?_⟩
  · rw [hi 0 8 (by omega), hi 65 6 (by omega)]; exact h3.1
  · rw [hi 0 8 (by omega)] at e
    obtain ⟨n', m', t', h⟩ := h3.2 e
    exact ⟨n', m', t', bw_c h (fun k _ => hi _ k (by omega)) (fun k _ => hi _ k (by omega)) (fun k _ => hi _ k (by omega)) (fun k _ => ⟨hi _ k (by omega), hi _ k (by omega), hi _ k (by omega)⟩) (fun k _ => hi _ k (by omega)) (hi _ _ (by omega)) (hi _ _ (by omega)) (hi _ _ (by omega)) (fun k _ => hi _ _ (by omega)) (fun k _ => hi _ _ (by omega)) (fun k _ => hi _ _ (by omega))⟩
  · obtain ⟨g1, g2, g3, g4, g5⟩ := h4 s hs
    rw [hi 57 s (by omega), hi 81 s (by omega), hi 58 s (by omega), hi 82 s (by omega)]
    exact ⟨g1, g2, g3, g4, g5⟩
  · obtain ⟨g1, g2, g3, g4, g5, g6⟩ := h5
    unfold re_bo
    rw [hi 64 0 (by omega), hi 65 8 (by omega)]
    exact ⟨g1, g2, g3, g4, g5, fun k hk => by rw [hi 70 k (by omega)]; exact g6 k hk⟩
def ps (I : aw_MI) (n m t : Nat) : Prop := (1 ≤ n ∧ n ≤ 3 ∧ m ≤ 6 ∧ t ≤ 40) ∧ I 1 0 = nI n ∧ I 1 1 = nI t ∧ I 1 2 = nI m ∧ I 65 0 = nI n ∧ I 65 3 = nI t ∧ I 65 4 = nI m
def pq (I : aw_MI) : Prop := (∀ k, k < 9 → I 2 k = I 66 k) ∧ ∀ r k, r < 3 → k < 3 → I 66 (3 * r + k) = I 66 (3 * k + r) ∧ (I 66 (3 * r + k)).toInt.natAbs ≤ if r = k then 20 else 9
def pp (I : aw_MI) : Prop := (∀ k, k < 3 → I 3 k = I 67 k) ∧ ∀ r, r < 3 → (I 67 r).toInt.natAbs ≤ 99
def pL (I : aw_MI) (m : Nat) : Prop := ∀ l, l < m → (I 4 l = I 68 (6 * l) ∧ I 5 l = I 68 (6 * l + 1) ∧ I 6 l = I 68 (6 * l + 2) ∧ ∀ i, i < 3 → I 7 (l * 3 + i) = I 68 (6 * l + 3 + i)) ∧ (I 68 (6 * l + 1)).toInt.natAbs ≤ 99 ∧ (I 68 (6 * l + 2)).toInt.natAbs ≤ 9 ∧ ∀ i, i < 3 → (I 68 (6 * l + 3 + i)).toInt.natAbs ≤ 9
theorem bw_of {I : aw_MI} {n m t : Nat} (h1 : ps I n m t) (h2 : pq I) (h3 : pp I) (h4 : pL I m) : re_bw I n m t := ⟨h1.1, h1.2, h2.1, h3.1, fun l hl => (h4 l hl).1, h2.2, h3.2, fun l hl => (h4 l hl).2⟩
theorem Rel.g {Ω : aw_O} {I : aw_MI} {J : aw_MJ} (R : Rel Ω I J) : ∃ n m t, (aw_main Ω 0 ∧ aw_model Ω 65 ∧ 84 ≤ aw_nx Ω) ∧ ps I n m t ∧ pq I ∧ pp I ∧ pL I m := by
  obtain ⟨h, ⟨n, m, t, b⟩, -⟩ := R
  obtain ⟨b1, b2, b3, b4, b5, b6, b7, b8⟩ := b
  exact ⟨n, m, t, h, ⟨b1, b2⟩, ⟨b3, b6⟩, ⟨b4, b7⟩, fun l hl => ⟨b5 l hl, b8 l hl⟩⟩
theorem ps.c {I I2 : aw_MI} {n m t : Nat} (h : ps I n m t) (f : ∀ a k, a = 1 ∨ (a = 65 ∧ (k = 0 ∨ k = 3 ∨ k = 4)) → I2 a k = I a k) : ps I2 n m t := by
  obtain ⟨h1, h2, h3, h4, h5, h6, h7⟩ := h
  refine ⟨h1, ?_, ?_, ?_, ?_, ?_, ?_⟩ <;> rw [f _ _ (by omega)] <;> assumption
theorem pq.c {I I2 : aw_MI} (h : pq I) (f : ∀ a k, a = 2 ∨ a = 66 → I2 a k = I a k) : pq I2 := by
  refine ⟨fun k hk => ?_, fun r k hr hk => ?_⟩
  · rw [f _ _ (by omega), f _ _ (by omega)]; exact h.1 k hk
  · rw [f _ _ (by omega), f _ _ (by omega)]; exact h.2 r k hr hk
theorem pp.c {I I2 : aw_MI} (h : pp I) (f : ∀ a k, a = 3 ∨ a = 67 → I2 a k = I a k) : pp I2 := by
  refine ⟨fun k hk => ?_, fun r hr => ?_⟩
  · rw [f _ _ (by omega), f _ _ (by omega)]; exact h.1 k hk
  · rw [f _ _ (by omega)]; exact h.2 r hr
theorem pL.c {I I2 : aw_MI} {m : Nat} (h : pL I m) (f : ∀ a k, (4 ≤ a ∧ a ≤ 7) ∨ a = 68 → I2 a k = I a k) : pL I2 m := by
  intro l hl
  obtain ⟨⟨h1, h2, h3, h4⟩, h5, h6, h7⟩ := h l hl
  refine ⟨⟨?_, ?_, ?_, fun i hi => ?_⟩, ?_, ?_, fun i hi => ?_⟩
  · rw [f _ _ (by omega), f _ _ (by omega)]; exact h1
  · rw [f _ _ (by omega), f _ _ (by omega)]; exact h2
  · rw [f _ _ (by omega), f _ _ (by omega)]; exact h3
  · rw [f _ _ (by omega), f _ _ (by omega)]; exact h4 i hi
  · rw [f _ _ (by omega)]; exact h5
  · rw [f _ _ (by omega)]; exact h6
  · rw [f _ _ (by omega)]; exact h7 i hi
theorem st_bend {G : aw_G} {d : Nat} {Ω : aw_O} {I : aw_MI} {J : aw_MJ} {Q : Int32 → aw_O → aw_MI → aw_MJ → Prop} {x y v : Int32} (R : Rel Ω I J) (hd : 160 ≤ d) (hQ : ∀ z I1 J1, pr_I G MX8_bend d 0 0 [.ref (aw_ad G 65), .int x, .int y, .int v] z Ω I1 J1 → Q z Ω I1 J1) : aw_Call G MX7_bend d 0 0 [.ref (aw_ad G 0), .int x, .int y, .int v] Ω I J (aw_QI Q) := by
  obtain ⟨n, m, t, ⟨hM, hW, hx⟩, hs, hq, hpp, hL⟩ := R.g
  have hs2 := hs
  obtain ⟨⟨n1, n3, m6, t40⟩, hn, ht, hm, hn8, ht8, hm8⟩ := hs2
  refine tX7_bend hM hn n3 (by omega) ?_ ?_
  · intro cB
    refine hQ _ _ _ (fun Q' k => ?_)
    refine tX8_bend hW hn8 n3 (by omega) ?_ ?_
    · intro mB
      exact k _ _ _ R (Nat.le_add_right _ _)
    · intro i j mx my mi mj mv
      exfalso
      rcases cB with e | e | ⟨i', j', e1, e2, e3, e4, e5⟩
      · rw [mx, sp_var_in mi (by omega)] at e; exact absurd e (by decide)
      · rw [my, sp_var_in mj (by omega)] at e; exact absurd e (by decide)
      · have h1 : i' = i := (nI_eq (by omega) (by omega)).mp (by rw [← e1, ← mx])
        have h2 : j' = j := (nI_eq (by omega) (by omega)).mp (by rw [← e2, ← my])
        rw [h1, h2] at e5
        exact mv e5
  · intro i j cx cy ci cj cv
    refine hQ _ _ _ (fun Q' k => ?_)
    refine tX8_bend hW (by rw [aw_up_ne _ _ (by omega), aw_up_ne _ _ (by omega)]; exact hn8) n3 (by omega) ?_ ?_
    · intro e
      exfalso
      rcases e with e | e | ⟨i', j', e1, e2, e3, e4, e5⟩
      · rw [cx, sp_var_in ci (by omega)] at e; exact absurd e (by decide)
      · rw [cy, sp_var_in cj (by omega)] at e; exact absurd e (by decide)
      · have h1 : i' = i := (nI_eq (by omega) (by omega)).mp (by rw [← e1, ← cx])
        have h2 : j' = j := (nI_eq (by omega) (by omega)).mp (by rw [← e2, ← cy])
        rw [h1, h2] at e5
        exact cv e5
    · intro i' j' mx my mi mj mv
      have h1 : i' = i := (nI_eq (by omega) (by omega)).mp (by rw [← mx, ← cx])
      have h2 : j' = j := (nI_eq (by omega) (by omega)).mp (by rw [← my, ← cy])
      subst h1 h2
      have e1 : aw_up (aw_up I 2 (i' * 3 + j') v) 2 (j' * 3 + i') v 66 (3 * i' + j') = I 2 (i' * 3 + j') := by
        rw [aw_up_ne _ _ (by omega), aw_up_ne _ _ (by omega), hq.1 _ (by omega)]
        congr 1
        omega
      rw [e1]
      refine k _ _ _ (R.bowl (n := n) (m := m) (t := t) ?_ (fun a k e => by rw [aw_up_ne _ _ (by omega), aw_up_ne _ _ (by omega), aw_up_ne _ _ (by omega), aw_up_ne _ _ (by omega)])) (Nat.le_add_right _ _)
      have f : ∀ a k, a ≠ 2 → a ≠ 66 → aw_up (aw_up (aw_up (aw_up I 2 (i' * 3 + j') v) 2 (j' * 3 + i') v) 66 (3 * i' + j') v) 66 (3 * j' + i') v a k = I a k := fun a k _ _ => by rw [aw_up_ne _ _ (by omega), aw_up_ne _ _ (by omega), aw_up_ne _ _ (by omega), aw_up_ne _ _ (by omega)]
      have f66 : ∀ k, aw_up (aw_up (aw_up (aw_up I 2 (i' * 3 + j') v) 2 (j' * 3 + i') v) 66 (3 * i' + j') v) 66 (3 * j' + i') v 66 k = if k = 3 * j' + i' ∨ k = 3 * i' + j' then v else I 66 k := fun k => by
        by_cases c1 : k = 3 * j' + i'
        · rw [if_pos (Or.inl c1), c1, aw_up_self]
        · rw [aw_up_ne _ _ (by omega)]
          by_cases c2 : k = 3 * i' + j'
          · rw [if_pos (Or.inr c2), c2, aw_up_self]
          · rw [aw_up_ne _ _ (by omega), if_neg (by omega), aw_up_ne _ _ (by omega), aw_up_ne _ _ (by omega)]
      have f2 : ∀ k, aw_up (aw_up (aw_up (aw_up I 2 (i' * 3 + j') v) 2 (j' * 3 + i') v) 66 (3 * i' + j') v) 66 (3 * j' + i') v 2 k = if k = 3 * j' + i' ∨ k = 3 * i' + j' then v else I 2 k := fun k => by
        rw [aw_up_ne _ _ (by omega), aw_up_ne _ _ (by omega)]
        by_cases c1 : k = 3 * j' + i'
        · rw [if_pos (Or.inl c1), show k = j' * 3 + i' by omega, aw_up_self]
        · rw [aw_up_ne _ _ (by omega)]
          by_cases c2 : k = 3 * i' + j'
          · rw [if_pos (Or.inr c2), show k = i' * 3 + j' by omega, aw_up_self]
          · rw [aw_up_ne _ _ (by omega), if_neg (by omega)]
      generalize aw_up (aw_up (aw_up (aw_up I 2 (i' * 3 + j') v) 2 (j' * 3 + i') v) 66 (3 * i' + j') v) 66 (3 * j' + i') v = I2 at f f66 f2
      have hbb := bend_b mv
      refine bw_of (hs.c (fun a k _ => f a k (by omega) (by omega))) ⟨fun k hk => ?_, fun r k hr hk => ?_⟩ (hpp.c (fun a k _ => f a k (by omega) (by omega))) (hL.c (fun a k _ => f a k (by omega) (by omega)))
      · rw [f2, f66]
        split
        · rfl
        · exact hq.1 k hk
      · rw [f66, f66]
        by_cases c1 : 3 * r + k = 3 * j' + i' ∨ 3 * r + k = 3 * i' + j'
        · rw [if_pos c1, if_pos (by omega)]
          refine ⟨rfl, ?_⟩
          by_cases c2 : r = k
          · rw [if_pos c2]
            rw [if_pos (by omega)] at hbb
            exact hbb
          · rw [if_neg c2]
            rw [if_neg (by omega)] at hbb
            exact hbb
        · rw [if_neg c1, if_neg (by omega)]
          exact hq.2 r k hr hk

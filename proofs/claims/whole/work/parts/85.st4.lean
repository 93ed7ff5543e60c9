theorem lh0 {x : Int32} {a b : Nat} : sp_lh x a b = 0 ↔ x < nI a ∨ nI b < x := by
  unfold sp_lh
  by_cases c1 : x < nI a
  · rw [if_pos c1]; exact ⟨fun _ => Or.inl c1, fun _ => rfl⟩
  · rw [if_neg c1]
    by_cases c2 : nI b < x
    · rw [if_pos c2]; exact ⟨fun _ => Or.inr c2, fun _ => rfl⟩
    · rw [if_neg c2]
      exact ⟨fun e => absurd e (by decide), fun e => absurd e (by rintro (e | e); exact c1 e; exact c2 e)⟩
theorem nI_rg {x : Int32} {j a b : Nat} (hx : x = nI j) (h1 : a ≤ j) (h2 : j ≤ b) (hb : b < 2 ^ 31) : ¬ (x < nI a ∨ nI b < x) := by
  rintro (e | e)
  · rw [hx, Int32.lt_iff_toInt_lt, nI_toInt (by omega), nI_toInt (by omega)] at e; omega
  · rw [hx, Int32.lt_iff_toInt_lt, nI_toInt (by omega), nI_toInt (by omega)] at e; omega
theorem st_push {G : aw_G} {d : Nat} {Ω : aw_O} {I : aw_MI} {J : aw_MJ} {Q : Int32 → aw_O → aw_MI → aw_MJ → Prop} {x v : Int32} (R : Rel Ω I J) (hd : 160 ≤ d) (hQ : ∀ z I1 J1, pr_I G MX8_push d 0 0 [.ref (aw_ad G 65), .int x, .int v] z Ω I1 J1 → Q z Ω I1 J1) : aw_Call G MX7_push d 0 0 [.ref (aw_ad G 0), .int x, .int v] Ω I J (aw_QI Q) := by
  obtain ⟨n, m, t, ⟨hM, hW, hx⟩, hs, hq, hpp, hL⟩ := R.g
  have hs2 := hs
  obtain ⟨⟨n1, n3, m6, t40⟩, hn, ht, hm, hn8, ht8, hm8⟩ := hs2
  refine tX7_push hM hn n3 (by omega) ?_ ?_
  · intro cB
    refine hQ _ _ _ (fun Q' k => ?_)
    refine tX8_push hW hn8 n3 (by omega) ?_ ?_
    · intro mB
      exact k _ _ _ R (Nat.le_add_right _ _)
    · intro i mx mi mv
      rcases cB with e | e
      · rw [mx, sp_var_in mi (by omega)] at e; exact absurd e (by decide)
      · exact absurd e mv
  · intro i cx ci cv
    refine hQ _ _ _ (fun Q' k => ?_)
    refine tX8_push hW (by rw [aw_up_ne _ _ (by omega)]; exact hn8) n3 (by omega) ?_ ?_
    · intro e
      rcases e with e | e
      · rw [cx, sp_var_in ci (by omega)] at e; exact absurd e (by decide)
      · exact absurd e cv
    · intro i' mx mi mv
      have h1 : i' = i := (nI_eq (by omega) (by omega)).mp (by rw [← mx, ← cx])
      subst h1
      rw [aw_up_ne _ _ (by omega), ← hpp.1 i' (by omega)]
      refine k _ _ _ (R.bowl (n := n) (m := m) (t := t) ?_ (fun a k e => by rw [aw_up_ne _ _ (by omega), aw_up_ne _ _ (by omega)])) (Nat.le_add_right _ _)
      have f : ∀ a k, a ≠ 3 → a ≠ 67 → aw_up (aw_up I 3 i' v) 67 i' v a k = I a k := fun a k _ _ => by rw [aw_up_ne _ _ (by omega), aw_up_ne _ _ (by omega)]
      refine bw_of (hs.c (fun a k _ => f a k (by omega) (by omega))) (hq.c (fun a k _ => f a k (by omega) (by omega))) ⟨fun k hk => ?_, fun r hr => ?_⟩ (hL.c (fun a k _ => f a k (by omega) (by omega)))
      · rw [aw_up_ne (aw_up I 3 i' v) _ (by omega)]
        by_cases e : k = i'
        · rw [e, aw_up_self, aw_up_self]
        · rw [aw_up_ne _ _ (by omega), aw_up_ne _ _ (by omega), aw_up_ne _ _ (by omega)]
          exact hpp.1 k hk
      · by_cases e : r = i'
        · rw [e, aw_up_self]; exact wi_b (by decide) cv
        · rw [aw_up_ne _ _ (by omega), aw_up_ne _ _ (by omega)]
          exact hpp.2 r hr
theorem st_tide {G : aw_G} {d : Nat} {Ω : aw_O} {I : aw_MI} {J : aw_MJ} {Q : Int32 → aw_O → aw_MI → aw_MJ → Prop} {x : Int32} (R : Rel Ω I J) (hd : 160 ≤ d) (hQ : ∀ z I1 J1, pr_I G MX8_tide d 0 0 [.ref (aw_ad G 65), .int x] z Ω I1 J1 → Q z Ω I1 J1) : aw_Call G MX7_tide d 0 0 [.ref (aw_ad G 0), .int x] Ω I J (aw_QI Q) := by
  obtain ⟨n, m, t, ⟨hM, hW, hx⟩, hs, hq, hpp, hL⟩ := R.g
  have hs2 := hs
  obtain ⟨⟨n1, n3, m6, t40⟩, hn, ht, hm, hn8, ht8, hm8⟩ := hs2
  refine tX7_tide hM ht ?_ ?_
  · intro cB
    refine hQ _ _ _ (fun Q' k => ?_)
    refine tX8_tide hW ht8 (by omega) ?_ ?_
    · intro mB
      exact k _ _ _ R (Nat.le_add_right _ _)
    · intro j mx mj
      exact absurd cB (nI_rg (a := 0) mx (by omega) mj (by omega))
  · intro j cx cj
    refine hQ _ _ _ (fun Q' k => ?_)
    refine tX8_tide hW (t := t) (by rw [aw_up_ne _ _ (by omega)]; exact ht8) (by omega) ?_ ?_
    · intro e
      exact absurd (lh0.mp e) (nI_rg (a := 0) cx (by omega) cj (by omega))
    · intro j' mx mj
      have h1 : j' = j := (nI_eq (by omega) (by omega)).mp (by rw [← mx, ← cx])
      subst h1
      refine k _ _ _ (R.bowl (n := n) (m := m) (t := j') ?_ (fun a k e => by rw [aw_up_ne _ _ (by omega), aw_up_ne _ _ (by omega)])) (Nat.le_add_right _ _)
      have f : ∀ a k, ¬ (a = 1 ∧ k = 1) → ¬ (a = 65 ∧ k = 3) → aw_up (aw_up I 1 1 (nI j')) 65 3 (nI j') a k = I a k := fun a k _ _ => by rw [aw_up_ne _ _ (by omega), aw_up_ne _ _ (by omega)]
      refine bw_of ⟨⟨n1, n3, m6, cj⟩, ?_, ?_, ?_, ?_, ?_, ?_⟩ (hq.c (fun a k _ => f a k (by omega) (by omega))) (hpp.c (fun a k _ => f a k (by omega) (by omega))) (hL.c (fun a k _ => f a k (by omega) (by omega)))
      · rw [f _ _ (by omega) (by omega)]; exact hn
      · rw [aw_up_ne _ _ (by omega), aw_up_self]
      · rw [f _ _ (by omega) (by omega)]; exact hm
      · rw [f _ _ (by omega) (by omega)]; exact hn8
      · rw [aw_up_self]
      · rw [f _ _ (by omega) (by omega)]; exact hm8
theorem sp_rd3 : ∀ k, k < 9 → sp_rd 3 k = rp_rd k := by decide +kernel
theorem rd_ok : ∀ r, r < 3 → ∀ k, k < 3 → rp_rd (3 * r + k) = rp_rd (3 * k + r) ∧ (rp_rd (3 * r + k)).toInt.natAbs ≤ if r = k then 20 else 9 := by decide +kernel
theorem st_size {G : aw_G} {d : Nat} {Ω : aw_O} {I : aw_MI} {J : aw_MJ} {Q : Int32 → aw_O → aw_MI → aw_MJ → Prop} {x : Int32} (R : Rel Ω I J) (hd : 160 ≤ d) (hQ : ∀ z I1 J1, pr_I G MX8_size d 0 0 [.ref (aw_ad G 65), .int x] z Ω I1 J1 → Q z Ω I1 J1) : aw_Call G MX7_size d 0 0 [.ref (aw_ad G 0), .int x] Ω I J (aw_QI Q) := by
  obtain ⟨n, m, t, ⟨hM, hW, hx⟩, hs, hq, hpp, hL⟩ := R.g
  have hs2 := hs
  obtain ⟨⟨n1, n3, m6, t40⟩, hn, ht, hm, hn8, ht8, hm8⟩ := hs2
  refine tX7_size hM hn (by omega) ?_ ?_
  · intro cB
    refine hQ _ _ _ (fun Q' k => ?_)
    refine tX8_size hW hn8 (by omega) ?_ ?_
    · intro mB
      exact k _ _ _ R (Nat.le_add_right _ _)
    · intro j mx mj1 mj
      exact absurd cB (nI_rg mx mj1 mj (by omega))
  · intro j cx cj1 cj
    refine hQ _ _ _ (fun Q' k => ?_)
    generalize hI1 : aw_fill (aw_wr (aw_up (aw_up (aw_up I 1 0 (nI j)) 1 1 (nI 0)) 1 2 (nI 0)) 2 0 9 (sp_rd 3)) 3 3 (nI 0) = I1 at k
    have g : ∀ a k, a ≠ 1 → a ≠ 2 → a ≠ 3 → I1 a k = I a k := fun a k _ _ _ => by
      rw [← hI1, aw_fill_off _ _ (by omega), aw_wr_off _ _ (by omega), aw_up_ne _ _ (by omega), aw_up_ne _ _ (by omega), aw_up_ne _ _ (by omega)]
    have g10 : I1 1 0 = nI j := by rw [← hI1, aw_fill_off _ _ (by omega), aw_wr_off _ _ (by omega), aw_up_ne _ _ (by omega), aw_up_ne _ _ (by omega), aw_up_self]
    have g11 : I1 1 1 = nI 0 := by rw [← hI1, aw_fill_off _ _ (by omega), aw_wr_off _ _ (by omega), aw_up_ne _ _ (by omega), aw_up_self]
    have g12 : I1 1 2 = nI 0 := by rw [← hI1, aw_fill_off _ _ (by omega), aw_wr_off _ _ (by omega), aw_up_self]
    have g2 : ∀ k, k < 9 → I1 2 k = rp_rd k := fun k hk => by
      have h := aw_wr_in (aw_up (aw_up (aw_up I 1 0 (nI j)) 1 1 (nI 0)) 1 2 (nI 0)) (a := 2) (lo := 0) (n := 9) (j := k) (sp_rd 3) hk
      rw [Nat.zero_add] at h
      rw [← hI1, aw_fill_off _ _ (by omega), h, sp_rd3 k hk]
    have g3 : ∀ k, k < 3 → I1 3 k = nI 0 := fun k hk => by
      rw [← hI1]
      unfold aw_fill
      rw [if_pos ⟨rfl, hk⟩]
    refine tX8_size hW (n := n) (by rw [g _ _ (by omega) (by omega) (by omega)]; exact hn8) (by omega) ?_ ?_
    · intro e
      exact absurd (lh0.mp e) (nI_rg cx cj1 cj (by omega))
    · intro j' mx mj1 mj
      have h1 : j' = j := (nI_eq (by omega) (by omega)).mp (by rw [← mx, ← cx])
      subst h1
      generalize hI2 : aw_up (aw_up (aw_wr (aw_wr (aw_up I1 65 0 (nI j')) 66 0 9 rp_rd) 67 0 3 (fun _ => nI 0)) 65 3 (nI 0)) 65 4 (nI 0) = I2
      have f : ∀ a k, ¬ (a = 65 ∧ (k = 0 ∨ k = 3 ∨ k = 4)) → a ≠ 66 → a ≠ 67 → I2 a k = I1 a k := fun a k _ _ _ => by
        rw [← hI2, aw_up_ne _ _ (by omega), aw_up_ne _ _ (by omega), aw_wr_off _ _ (by omega), aw_wr_off _ _ (by omega), aw_up_ne _ _ (by omega)]
      have f66 : ∀ k, k < 9 → I2 66 k = rp_rd k := fun k hk => by
        have h := aw_wr_in (aw_up I1 65 0 (nI j')) (a := 66) (lo := 0) (n := 9) (j := k) rp_rd hk
        rw [Nat.zero_add] at h
        rw [← hI2, aw_up_ne _ _ (by omega), aw_up_ne _ _ (by omega), aw_wr_off _ _ (by omega), h]
      have f67 : ∀ k, k < 3 → I2 67 k = nI 0 := fun k hk => by
        have h := aw_wr_in (aw_wr (aw_up I1 65 0 (nI j')) 66 0 9 rp_rd) (a := 67) (lo := 0) (n := 3) (j := k) (fun _ => nI 0) hk
        rw [Nat.zero_add] at h
        rw [← hI2, aw_up_ne _ _ (by omega), aw_up_ne _ _ (by omega), h]
      refine k _ _ _ (R.bowl (n := j') (m := 0) (t := 0) ?_ (fun a k e => by rw [f _ _ (by omega) (by omega) (by omega), g _ _ (by omega) (by omega) (by omega)])) (Nat.le_add_right _ _)
      refine bw_of ⟨⟨mj1, mj, by omega, by omega⟩, ?_, ?_, ?_, ?_, ?_, ?_⟩ ⟨fun k hk => ?_, fun r k hr hk => ?_⟩ ⟨fun k hk => ?_, fun r hr => ?_⟩ (fun l hl => absurd hl (by omega))
      · rw [f _ _ (by omega) (by omega) (by omega)]; exact g10
      · rw [f _ _ (by omega) (by omega) (by omega)]; exact g11
      · rw [f _ _ (by omega) (by omega) (by omega)]; exact g12
      · rw [← hI2, aw_up_ne _ _ (by omega), aw_up_ne _ _ (by omega), aw_wr_off _ _ (by omega), aw_wr_off _ _ (by omega), aw_up_self]
      · rw [← hI2, aw_up_ne _ _ (by omega), aw_up_self]
      · rw [← hI2, aw_up_self]
      · rw [f _ _ (by omega) (by omega) (by omega), g2 k hk, f66 k hk]
      · rw [f66 _ (by omega), f66 _ (by omega)]
        exact rd_ok r hr k hk
      · rw [f _ _ (by omega) (by omega) (by omega), g3 k hk, f67 k hk]
      · rw [f67 r hr]; decide

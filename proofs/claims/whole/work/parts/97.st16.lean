/-! A CERTIFICATE LOOKED AT -/
theorem al_iff {f : Nat → Bool} : ∀ {z k : Nat}, ¬ sp_al f k z = 0 ↔ ∀ i, k ≤ i → i < k + z → f i = true
  | 0, k => ⟨fun _ i h1 h2 => absurd h2 (by omega), fun _ => by show ¬ nI 1 = 0; decide⟩
  | z + 1, k => by
    unfold sp_al
    by_cases e : f k = true
    · rw [if_pos e, al_iff (z := z) (k := k + 1)]
      refine ⟨fun h i h1 h2 => ?_, fun h i h1 h2 => h i (by omega) (by omega)⟩
      by_cases e2 : i = k
      · rw [e2]; exact e
      · exact h i (by omega) (by omega)
    · rw [if_neg e]
      exact ⟨fun q => absurd (by rfl) q, fun h => absurd (h k (by omega) (by omega)) e⟩
theorem ab_iff {f : Nat → Bool} : ∀ {n : Nat}, ¬ rp_ab f n = 0 ↔ ∀ i, i < n → f i = true
  | 0 => ⟨fun _ i h2 => absurd h2 (by omega), fun _ => by show ¬ nI 1 = 0; decide⟩
  | n + 1 => by
    have ih := ab_iff (f := f) (n := n)
    unfold rp_ab
    by_cases e : f n = true
    · rw [if_pos e]
      rcases rp_ab01 f n with h | h
      · rw [h]
        refine ⟨fun q => absurd (by rfl) q, fun q => ?_⟩
        have := ih.mpr (fun i hi => q i (by omega))
        exact absurd h this
      · rw [h]
        refine ⟨fun _ i hi => ?_, fun _ => by decide⟩
        by_cases e2 : i = n
        · rw [e2]; exact e
        · exact ih.mp (by rw [h]; decide) i (by omega)
    · rw [if_neg e]
      refine ⟨fun q => absurd ?_ q, fun h => absurd (h n (by omega)) e⟩
      rcases rp_ab01 f n with h | h <;> rw [h] <;> rfl
theorem al_ab {f g : Nat → Bool} {n : Nat} (h : ∀ i, i < n → f i = g i) : sp_al f 0 n = 0 ↔ rp_ab g n = 0 := by
  have h1 := al_iff (f := f) (z := n) (k := 0)
  have h2 := ab_iff (f := g) (n := n)
  have h3 : (∀ i, 0 ≤ i → i < 0 + n → f i = true) ↔ ∀ i, i < n → g i = true := ⟨fun q i hi => by rw [← h i hi]; exact q i (by omega) (by omega), fun q i _ hi => by rw [h i (by omega)]; exact q i (by omega)⟩
  exact Decidable.not_iff_not.mp (h1.trans (h3.trans h2.symm))
theorem or_dec2 : ∀ m, m < 7 → ∀ h, h < 64 → (sp_or (fun l => h.testBit l) m = sp_all m ↔ ¬ sp_al (fun l => h.testBit l) 0 m = 0) := by decide +kernel
theorem or_al {f g : Nat → Bool} {m : Nat} (hm : m ≤ 6) (hfg : ∀ i, i < m → f i = g i) : sp_or g m = sp_all m ↔ ¬ sp_al f 0 m = 0 := by
  obtain ⟨h, h1, h2⟩ := bits_of g
  rw [sp_or_c (g := fun l => h.testBit l) (fun l hl => h2 l (by omega)), sp_al_c (g := fun l => h.testBit l) (m := m) (by omega) (fun l hl => by rw [hfg l hl]; exact h2 l (by omega))]
  exact or_dec2 m (by omega) h h1
theorem s1_c {a : Int64} {q q' : Nat → Int32} {x x' : Nat → Int64} : ∀ {n : Nat}, (∀ i, i < n → q i = q' i ∧ x i = x' i) → sp_s1 a q x n = sp_s1 a q' x' n
  | 0, _ => rfl
  | n + 1, h => by
    unfold sp_s1
    rw [s1_c (fun i hi => h i (by omega)), (h n (by omega)).1, (h n (by omega)).2]
theorem fw_eq {I : aw_MI} {J J' : aw_MJ} {n m : Nat} (a : ag I I 1 n m) (hm : m ≤ 6) (hT : I 1 1 = I 65 3) (hb : J 61 2 = J' 65 18) (hx : ∀ i, i < n → J 62 i = J' 73 i) (hy : ∀ l, l < m → J 63 l = J' 74 l) : sp_fw I J 1 61 n m = rp_fw I J' n m := by
  have hs : ∀ l, l < m → sp_slk I J 1 61 n (I 1 1) l = rp_slk I J' n l := fun l hl => by
    unfold sp_slk rp_slk
    rw [a.bd hl, hT, hb]
    exact sp_left_c (fun i hi => a.rw hl hi) (fun i hi => hx i hi)
  have e2 : sp_al (sq_bal I J 1 61 n m) 0 n = 0 ↔ rp_ab (rq_bal I J' n m) n = 0 := al_ab (fun i hi => by
    unfold sq_bal rq_bal sp_bal rp_bal
    have e : sp_s1 ((I (1 + 2) i).toInt64 * J 61 2) (fun j => I (1 + 1) (i * 3 + j)) (J (61 + 1)) n = sp_s1 ((I 67 i).toInt64 * J' 65 18) (fun j => I 66 (3 * i + j)) (J' 73) n := by
      rw [a.p i hi, hb]
      exact s1_c (fun j hj => ⟨a.q i j hi hj, hx j hj⟩)
    rw [e, s1_c (fun l hl => ⟨a.rw hl hi, hy l hl⟩)])
  have e3 : sp_al (sq_wr I J 1 61) 0 m = 0 ↔ rp_ab (rq_sg I J') m = 0 := al_ab (fun l hl => by
    unfold sq_wr rq_sg
    rw [a.kd l hl, show J (61 + 2) l = J' 74 l from hy l hl]
    by_cases c1 : J' 74 l < 0 <;> by_cases c2 : sp_on (I 68 (6 * l)) = 0 <;> simp [c1, c2])
  have e4 : sp_or (rp_hb I J' n) m = sp_all m ↔ ¬ sp_al (sq_hd I J 1 61 n) 0 m = 0 := or_al hm (fun l hl => by
    unfold sq_hd rp_hb
    rw [a.kd l hl, hs l hl])
  have e5 : sp_al (sq_ti I J 1 61 n) 0 m = 0 ↔ rp_ab (rq_mt I J' n) m = 0 := al_ab (fun l hl => by
    unfold sq_ti rq_mt
    rw [show J (61 + 2) l = J' 74 l from hy l hl, hs l hl]
    by_cases c1 : J' 74 l = 0 <;> by_cases c2 : rp_slk I J' n l = 0 <;> simp [c1, c2])
  unfold sp_fw rp_fw
  rw [hb]
  by_cases c1 : J' 65 18 < 1
  · rw [if_pos c1, if_pos c1]
  · rw [if_neg c1, if_neg c1]
    by_cases c2 : rp_ab (rq_bal I J' n m) n = 0
    · rw [if_pos c2, if_pos (e2.mpr c2)]
    · rw [if_neg c2, if_neg (mt e2.mp c2)]
      by_cases c3 : rp_ab (rq_sg I J') m = 0
      · rw [if_pos c3, if_pos (e3.mpr c3)]
      · rw [if_neg c3, if_neg (mt e3.mp c3)]
        by_cases c4 : sp_or (rp_hb I J' n) m = sp_all m
        · rw [if_pos c4, if_neg (e4.mp c4)]
          by_cases c5 : rp_ab (rq_mt I J' n) m = 0
          · rw [if_pos c5, if_pos (e5.mpr c5)]
          · rw [if_neg c5, if_neg (mt e5.mp c5)]
        · rw [if_neg c4, if_pos (Classical.byContradiction (fun q => c4 (e4.mpr q)))]
def inr (v : Int64) : Bool := decide (¬ v < -1000000000000 ∧ ¬ 1000000000000 < v)
theorem in_al {x : Nat → Int64} : ∀ (z k : Nat), sp_in x 1000000000000 k z = sp_al (fun i => inr (x i)) k z
  | 0, _ => rfl
  | z + 1, k => by
    unfold sp_in sp_al inr
    rw [in_al z (k + 1)]
    unfold inr
    by_cases c1 : x k < -1000000000000 <;> by_cases c2 : 1000000000000 < x k <;> simp [c1, c2]
theorem rp_far01 (x : Nat → Int64) : ∀ n, rp_far x n = 0 ∨ rp_far x n = 1
  | 0 => Or.inl rfl
  | n + 1 => by
    unfold rp_far
    rcases rp_far01 x n with h | h <;> rw [h] <;> split
    · exact Or.inr rfl
    · exact Or.inl rfl
    · exact Or.inr rfl
    · exact Or.inr rfl
theorem far_iff {x : Nat → Int64} : ∀ {n : Nat}, rp_far x n = 0 ↔ ∀ i, i < n → inr (x i) = true
  | 0 => ⟨fun _ i h => absurd h (by omega), fun _ => rfl⟩
  | n + 1 => by
    have ih := far_iff (x := x) (n := n)
    unfold rp_far
    have h1 : sp_rng (x n) (-1000000000000) 1000000000000 = 0 ↔ ¬ inr (x n) = true := by
      unfold sp_rng inr
      by_cases c1 : x n < -1000000000000
      · rw [if_pos c1]
        simp [c1]
        rfl
      · rw [if_neg c1]
        by_cases c2 : 1000000000000 < x n
        · rw [if_pos c2]
          simp [c2]
          rfl
        · rw [if_neg c2]
          simp [c1, c2]
          decide
    by_cases e : sp_rng (x n) (-1000000000000) 1000000000000 = 0
    · rw [if_pos e]
      refine ⟨fun q => ?_, fun q => absurd (q n (by omega)) (h1.mp e)⟩
      exfalso
      rcases rp_far01 x n with h | h <;> rw [h] at q <;> exact absurd q (by decide)
    · rw [if_neg e, show rp_far x n ||| nI 0 = rp_far x n from Int32.or_zero]
      rw [ih]
      have h2 : inr (x n) = true := Classical.byContradiction (fun q => e (h1.mpr q))
      refine ⟨fun q i hi => ?_, fun q i hi => q i (by omega)⟩
      by_cases e2 : i = n
      · rw [e2]; exact h2
      · exact q i (by omega)
theorem in_far {x y : Nat → Int64} {n : Nat} (h : ∀ i, i < n → x i = y i) : sp_in x 1000000000000 0 n = 0 ↔ ¬ rp_far y n = 0 := by
  rw [in_al]
  have h1 := al_iff (f := fun i => inr (x i)) (z := n) (k := 0)
  have h2 := far_iff (x := y) (n := n)
  have h3 : (∀ i, 0 ≤ i → i < 0 + n → inr (x i) = true) ↔ ∀ i, i < n → inr (y i) = true := ⟨fun q i hi => by rw [← h i hi]; exact q i (by omega) (by omega), fun q i _ hi => by rw [h i (by omega)]; exact q i (by omega)⟩
  have h4 := h1.trans (h3.trans h2.symm)
  exact ⟨fun q r => h4.mpr r q, fun q => Classical.byContradiction (fun r => q (h4.mp r))⟩
theorem st_check {G : aw_G} {d : Nat} {Ω : aw_O} {I : aw_MI} {J : aw_MJ} {Q : Int32 → aw_O → aw_MI → aw_MJ → Prop} {x : Int32} (R : Rel Ω I J) (hd : 160 ≤ d) (hQ : ∀ z I1 J1, pr_I G MX8_check d 0 0 [.ref (aw_ad G 65), .int x] z Ω I1 J1 → Q z Ω I1 J1) : aw_Call G MX7_check d 0 0 [.ref (aw_ad G 0), .int x] Ω I J (aw_QI Q) := by
  obtain ⟨n, m, t, ⟨hM, hW, hx⟩, ⟨n1, n3, m6, t40⟩, ⟨hn, ht, hm⟩, hF⟩ := R.f
  obtain ⟨⟨hn8, ht8, hm8⟩, a, r⟩ := hF I (vI.r I)
  have hfar : ∀ s, s < 4 → (sp_in (fun i => J 59 (s * 12 + i)) 1000000000000 0 (n + m + 1) = 0 ↔ ¬ rp_far (fun k => J 83 (12 * s + k)) (n + m + 1) = 0) := fun s hs => in_far (fun i hi => (R.s hs).2.2.2 i (by omega))
  refine tX7_check hM hn n3 hm m6 ht (by omega) ?_ ?_ ?_ ?_ ?_
  · intro cB
    refine hQ _ _ _ (fun Q' k => tX8_check hW hn8 n3 hm8 m6 (by omega) ?_ ?_ ?_ ?_ ?_)
    · intro _; exact k _ _ _ R (Nat.le_add_right _ _)
    · intro s mx ms; rw [mx, sp_var_in ms (by omega)] at cB; exact absurd cB (by decide)
    · intro s mx ms; rw [mx, sp_var_in ms (by omega)] at cB; exact absurd cB (by decide)
    · intro s mx ms; rw [mx, sp_var_in ms (by omega)] at cB; exact absurd cB (by decide)
    · intro s mx ms; rw [mx, sp_var_in ms (by omega)] at cB; exact absurd cB (by decide)
  · intro s cx cs c1
    have hS := R.s cs
    have hB : ¬ sp_var x 4 = 0 := by rw [cx, sp_var_in cs (by omega)]; decide
    refine hQ _ _ _ (fun Q' k => tX8_check hW hn8 n3 hm8 m6 (by omega) ?_ ?_ ?_ ?_ ?_)
    · intro e; exact absurd e hB
    · intro _ _ _ _; exact k _ _ _ R (Nat.le_add_right _ _)
    · intro s' mx ms e
      have es : s' = s := (nI_eq (by omega) (by omega)).mp (by rw [← mx, ← cx])
      subst es
      exact absurd (hS.1.mp c1) e
    · intro s' mx ms e
      have es : s' = s := (nI_eq (by omega) (by omega)).mp (by rw [← mx, ← cx])
      subst es
      exact absurd (hS.1.mp c1) e
    · intro s' mx ms e
      have es : s' = s := (nI_eq (by omega) (by omega)).mp (by rw [← mx, ← cx])
      subst es
      exact absurd (hS.1.mp c1) e
  · intro s cx cs c1 c2
    have hS := R.s cs
    have hB : ¬ sp_var x 4 = 0 := by rw [cx, sp_var_in cs (by omega)]; decide
    refine hQ _ _ _ (fun Q' k => tX8_check hW hn8 n3 hm8 m6 (by omega) ?_ ?_ ?_ ?_ ?_)
    · intro e; exact absurd e hB
    · intro s' mx ms e
      have es : s' = s := (nI_eq (by omega) (by omega)).mp (by rw [← mx, ← cx])
      subst es
      exact absurd (hS.1.mpr e) c1
    · intro _ _ _ _ _; exact k _ _ _ R (Nat.le_add_right _ _)
    · intro s' mx ms _ e
      have es : s' = s := (nI_eq (by omega) (by omega)).mp (by rw [← mx, ← cx])
      subst es
      exact absurd (by rw [hS.2.2.1]; exact e) c2
    · intro s' mx ms _ e
      have es : s' = s := (nI_eq (by omega) (by omega)).mp (by rw [← mx, ← cx])
      subst es
      exact absurd (by rw [hS.2.2.1]; exact e) c2
  · intro s cx cs c1 c2 c3
    have hS := R.s cs
    have hB : ¬ sp_var x 4 = 0 := by rw [cx, sp_var_in cs (by omega)]; decide
    refine hQ _ _ _ (fun Q' k => tX8_check hW hn8 n3 hm8 m6 (by omega) ?_ ?_ ?_ ?_ ?_)
    · intro e; exact absurd e hB
    · intro s' mx ms e
      have es : s' = s := (nI_eq (by omega) (by omega)).mp (by rw [← mx, ← cx])
      subst es
      exact absurd (hS.1.mpr e) c1
    · intro s' mx ms _ e
      have es : s' = s := (nI_eq (by omega) (by omega)).mp (by rw [← mx, ← cx])
      subst es
      exact absurd (by rw [← hS.2.2.1]; exact c2) e
    · intro _ _ _ _ _ _; exact k _ _ _ R (Nat.le_add_right _ _)
    · intro s' mx ms _ _ e
      have es : s' = s := (nI_eq (by omega) (by omega)).mp (by rw [← mx, ← cx])
      subst es
      exact absurd e ((hfar s' cs).mp c3)
  · intro s cx cs c1 c2 c3
    have hS := R.s cs
    have hB : ¬ sp_var x 4 = 0 := by rw [cx, sp_var_in cs (by omega)]; decide
    generalize hJ1 : aw_up (aw_wr (aw_wr J 62 0 n (fun i => J 59 (s * 12 + i))) 63 0 m (fun l => J 59 (s * 12 + (n + l)))) 61 2 (J 59 (s * 12 + (n + m))) = J1
    have g : ∀ a, a ≠ 61 → a ≠ 62 → a ≠ 63 → J1 a = J a := fun a _ _ _ => by
      rw [← hJ1, aw_up_off _ _ (by omega), aw_wr_off _ _ (by omega), aw_wr_off _ _ (by omega)]
    have g61 : J1 61 2 = J 59 (s * 12 + (n + m)) := by rw [← hJ1, aw_up_self]
    have g62 : ∀ i, i < n → J1 62 i = J 59 (s * 12 + i) := fun i hi => by rw [← hJ1, aw_up_ne _ _ (by omega), aw_wr_off _ _ (by omega), aw_wr_in0 _ _ hi]
    have g63 : ∀ l, l < m → J1 63 l = J 59 (s * 12 + (n + l)) := fun l hl => by rw [← hJ1, aw_up_ne _ _ (by omega), aw_wr_in0 _ _ hl]
    have R1 : Rel Ω I J1 := R.v (vI.r I) (fun a k e => by rw [g a (by omega) (by omega) (by omega)])
    have e83 : J1 83 = J 83 := g 83 (by omega) (by omega) (by omega)
    refine hQ _ _ _ (fun Q' k => tX8_check hW hn8 n3 hm8 m6 (by omega) ?_ ?_ ?_ ?_ ?_)
    · intro e; exact absurd e hB
    · intro s' mx ms e
      have es : s' = s := (nI_eq (by omega) (by omega)).mp (by rw [← mx, ← cx])
      subst es
      exact absurd (hS.1.mpr e) c1
    · intro s' mx ms _ e
      have es : s' = s := (nI_eq (by omega) (by omega)).mp (by rw [← mx, ← cx])
      subst es
      exact absurd (by rw [← hS.2.2.1]; exact c2) e
    · intro s' mx ms _ _ e
      have es : s' = s := (nI_eq (by omega) (by omega)).mp (by rw [← mx, ← cx])
      subst es
      rw [e83] at e
      exact absurd ((hfar s' cs).mpr e) c3
    · intro s' mx ms _ _ e
      have es : s' = s := (nI_eq (by omega) (by omega)).mp (by rw [← mx, ← cx])
      subst es
      have e1 : sp_fw I J1 1 61 n m = rp_fw I (aw_up (aw_wr (aw_wr J1 73 0 n (fun i => J1 83 (12 * s' + i))) 74 0 6 (fun l => if l < m then J1 83 (12 * s' + n + l) else 0)) 65 18 (J1 83 (12 * s' + n + m))) n m := by
        refine fw_eq a m6 (by rw [ht, ht8]) ?_ (fun i hi => ?_) (fun l hl => ?_)
        · rw [aw_up_self, g61, e83, hS.2.2.2 _ (by omega), Nat.add_assoc]
        · rw [g62 i hi, aw_up_ne _ _ (by omega), aw_wr_off _ _ (by omega), aw_wr_in0 _ _ hi, e83]
          exact hS.2.2.2 i (by omega)
        · rw [g63 l hl, aw_up_ne _ _ (by omega), aw_wr_in0 _ _ (by omega), if_pos hl, e83, hS.2.2.2 _ (by omega), Nat.add_assoc]
      rw [← e1]
      exact k _ _ _ (R1.v (vI.r I) (fun a k e => by rw [aw_up_ne _ _ (by omega), aw_wr_off _ _ (by omega), aw_wr_off _ _ (by omega)])) (Nat.le_add_right _ _)

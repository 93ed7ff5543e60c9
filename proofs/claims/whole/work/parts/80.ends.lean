/-! THE WALK ENDS within 64 sets -/
theorem find_r (gb : Nat → Bool) (x : Int32) : ∀ z w, cx_find gb x z w = -1 ∨ ∃ w', w ≤ w' ∧ w' < w + z ∧ cx_find gb x z w = nI w' ∧ gb w' = true ∧ nI w' &&& (x ^^^ (-1)) = 0
  | 0, _ => Or.inl rfl
  | z + 1, w => by
    unfold cx_find
    have h := find_r gb x z (w + 1)
    by_cases e1 : nI w &&& (x ^^^ (-1)) = 0
    · rw [if_pos e1]
      by_cases e2 : gb w = true
      · rw [if_pos e2]
        exact Or.inr ⟨w, Nat.le_refl _, by omega, rfl, e2, e1⟩
      · rw [if_neg e2]
        rcases h with h | ⟨w', h1, h2, h3⟩
        · exact Or.inl h
        · exact Or.inr ⟨w', by omega, by omega, h3⟩
    · rw [if_neg e1]
      rcases h with h | ⟨w', h1, h2, h3⟩
      · exact Or.inl h
      · exact Or.inr ⟨w', by omega, by omega, h3⟩
theorem al_all {f : Nat → Bool} : ∀ {z k : Nat}, ¬ sp_al f k z = 0 → ∀ i, k ≤ i → i < k + z → f i = true
  | 0, k, _, i, h1, h2 => absurd h2 (by omega)
  | z + 1, k, h, i, h1, h2 => by
    unfold sp_al at h
    by_cases e : f k = true
    · rw [if_pos e] at h
      by_cases e2 : i = k
      · rw [e2]; exact e
      · exact al_all h i (by omega) (by omega)
    · rw [if_neg e] at h
      exact absurd (by rfl) h
theorem gb_ok {I : aw_MI} {n m w : Nat} {x t : Int32} (h : rx_gb I n m x t w = true) : rx_ok I n m w ∧ ¬ rx_fit I n m x t w = 0 := by
  simp only [rx_gb, Bool.and_eq_true, decide_eq_true_eq] at h
  exact ⟨⟨h.1, h.2.1⟩, h.2.2⟩
/-- a line's slack, as a whole number, is one that holds it -/
def ex_h (kd : Int32) (v : Int) : Prop := (kd = nI 2 → v = 0) ∧ (¬ kd = nI 2 → 0 ≤ v)
theorem held_ex {kd : Int32} {v : Int64} : ¬ sp_held kd v = 0 ↔ ex_h kd v.toInt := by
  unfold sp_held ex_h
  by_cases e : kd = nI 2
  · rw [if_pos e]
    by_cases e2 : v = 0
    · rw [if_pos e2]
      exact ⟨fun _ => ⟨fun _ => (eq0_64 v).mp e2, fun q => absurd e q⟩, fun _ => by decide⟩
    · rw [if_neg e2]
      exact ⟨fun q => absurd (by rfl) q, fun q => absurd ((eq0_64 v).mpr (q.1 e)) e2⟩
  · rw [if_neg e]
    by_cases e2 : v < 0
    · rw [if_pos e2]
      rw [lt0_64] at e2
      exact ⟨fun q => absurd (by rfl) q, fun q => absurd (q.2 e) (by omega)⟩
    · rw [if_neg e2]
      rw [lt0_64] at e2
      exact ⟨fun _ => ⟨fun q => absurd q e, fun _ => by omega⟩, fun _ => by decide⟩
theorem on_ex {kd : Int32} : sp_on kd = 0 ↔ ¬ kd = nI 2 := by
  unfold sp_on
  by_cases e : kd = nI 2
  · rw [if_pos e]
    exact ⟨fun q => absurd q (by decide), fun q => absurd e q⟩
  · rw [if_neg e]
    exact ⟨fun _ => e, fun _ => rfl⟩
theorem rg.gbI {I' : aw_MI} {n m : Nat} (h : rg I' n m) {t w : Nat} {x : Int32} (ht : t ≤ 40) (hg : rx_gb I' n m x (nI t) w = true) : rx_ok I' n m w ∧ (∀ l, l < m → ¬ x >>> (nI l &&& 31) &&& nI 1 = 0 → ex_h (I' 68 (6 * l)) (ex_s I' n m w t l)) ∧ ∀ l, l < m → ¬ I' 68 (6 * l) = nI 2 → 0 ≤ ex_y I' n m w t l := by
  obtain ⟨h1, h2⟩ := gb_ok hg
  have h3 := al_all h2
  refine ⟨h1, fun l hl hb => ?_, fun l hl hk => ?_⟩
  · have h4 := h3 l (by omega) (by omega)
    unfold rp_rb at h4
    rw [decide_eq_true_eq] at h4
    rcases h4.1 with e | e
    · exact absurd e hb
    · rw [held_ex, (h.slI h1.1 ht hl).1] at e
      exact e
  · have h4 := h3 l (by omega) (by omega)
    unfold rp_rb at h4
    rw [decide_eq_true_eq] at h4
    rcases h4.2 with e | e
    · exact absurd (on_ex.mpr hk) e
    · rw [lt0_64, (h.yI h1.1 ht l).1] at e
      omega
theorem mb_inj : ∀ S, S < 64 → ∀ i, i < 6 → ∀ j, j < 6 → (i < (sp_mb (nI S) 6).length ∧ j < (sp_mb (nI S) 6).length ∧ (sp_mb (nI S) 6).getD i 0 = (sp_mb (nI S) 6).getD j 0) → i = j := by decide +kernel
theorem mb_or : ∀ S, S < 64 → ∀ l, l < 6 → ¬ nI (S ||| 2 ^ l) >>> (nI l &&& 31) &&& nI 1 = 0 ∧ ∀ k, k < 6 → k < (sp_mb (nI S) 6).length → ¬ nI (S ||| 2 ^ l) >>> (nI ((sp_mb (nI S) 6).getD k 0) &&& 31) &&& nI 1 = 0 := by decide +kernel
theorem wt_at {mb : Nat → Nat} {f : Nat → Int} : ∀ {K k : Nat}, k < K → (∀ i j, i < K → j < K → mb i = mb j → i = j) → ex_wt mb f K (mb k) = f k
  | 0, _, h, _ => absurd h (by omega)
  | K + 1, k, h, inj => by
    unfold ex_wt
    by_cases e : mb k = mb K
    · rw [if_pos e, inj k K h (by omega) e]
    · rw [if_neg e]
      exact wt_at (by
        have : k ≠ K := fun q => e (by rw [q])
        omega) (fun i j hi hj => inj i j (by omega) (by omega))
theorem cx_mb6 {m S : Nat} (hm : m ≤ 6) (hS : S < 2 ^ m) : cx_n S m = (sp_mb (nI S) 6).length ∧ ∀ k, cx_mb S m k = (sp_mb (nI S) 6).getD k 0 := by
  unfold cx_n cx_mb
  rw [sp_mb_m m (by omega) S hS]
  exact ⟨rfl, fun _ => rfl⟩
theorem lt64 {m S : Nat} (hm : m ≤ 6) (hS : S < 2 ^ m) : S < 64 := Nat.lt_of_lt_of_le hS (Nat.pow_le_pow_right (by decide) hm : 2 ^ m ≤ 2 ^ 6)
theorem ex_ymb {I : aw_MI} {n m S t k : Nat} (hm : m ≤ 6) (hS : S < 2 ^ m) (hk : k < cx_n S m) : ex_y I n m S t (cx_mb S m k) = ex_x I n m S t (n + k) := by
  obtain ⟨e1, e2⟩ := cx_mb6 hm hS
  unfold ex_y
  refine wt_at (f := fun j => ex_x I n m S t (n + j)) hk (fun i j hi hj e => ?_)
  rw [e2, e2] at e
  have h6 := (dp_f5 S (lt64 hm hS)).1
  exact mb_inj S (lt64 hm hS) i (by omega) j (by omega) ⟨by omega, by omega, e⟩
theorem rw_f_no (h : Nat → Bool) : ∀ z l, rw_f h l z < l + z → ¬ h (rw_f h l z) = true
  | 0, l, e => by
    unfold rw_f at e
    omega
  | z + 1, l, e => by
    unfold rw_f at e ⊢
    by_cases e1 : h l = true
    · rw [if_pos e1] at e ⊢
      exact rw_f_no h z (l + 1) (by omega)
    · rw [if_neg e1]
      exact e1
/-- a step makes it worth more -/
theorem rg.step {I : aw_MI} {n m : Nat} (h : rg I n m) (hp : ¬ rp_ac (I 66) n = 0) {t w l w' : Nat} (ht : t ≤ 40) (hw : w < 2 ^ m) (ho : rx_ok I n m w) (hy : ∀ l, l < m → ¬ I 68 (6 * l) = nI 2 → 0 ≤ ex_y I n m w t l) (hl : l < m) (hn : ¬ rx_hb I n m (nI t) w l = true) (hg : rx_gb I n m (nI (w ||| 2 ^ l)) (nI t) w' = true) : ex_N I n m t w * (ex_b I n m w' * ex_b I n m w') < ex_N I n m t w' * (ex_b I n m w * ex_b I n m w) := by
  obtain ⟨ho', g1, g2⟩ := h.gbI ht hg
  have m6 := h.m6
  obtain ⟨e1, e2⟩ := cx_mb6 m6 hw
  have h64 := lt64 m6 hw
  have h6 := (dp_f5 w h64).1
  have hb := (h.b0 ho).1
  have hb' := (h.b0 ho').1
  refine h.grow hp ho ho' (fun k hk => ?_) ⟨l, hl, fun e => ?_⟩
  · have hl' : cx_mb w m k < m := sp_mb_lt hk
    have h1 := g1 (cx_mb w m k) hl' (by rw [e2]; exact (mb_or w h64 l (by omega)).2 k (by omega) (by omega))
    by_cases e : I 68 (6 * cx_mb w m k) = nI 2
    · rw [h1.1 e, Int.mul_zero]; exact Int.le_refl _
    · have h2 := hy _ hl' e
      rw [ex_ymb m6 hw hk] at h2
      exact Int.mul_nonneg h2 (h1.2 e)
  · have h1 := g1 l hl (mb_or w h64 l (by omega)).1
    refine hn ?_
    unfold rx_hb
    rw [decide_eq_true_eq, held_ex, (h.slI ho.1 ht hl).1]
    refine ⟨fun e3 => ?_, fun e3 => ?_⟩
    · rw [h1.1 e3, Int.mul_zero] at e
      rcases Int.mul_eq_zero.mp e.symm with e4 | e4
      · omega
      · exact e4
    · have h2 := Int.mul_nonneg (Int.le_of_lt hb) (h1.2 e3)
      rw [e] at h2
      exact pos_nn hb' h2
/-- how many sets are worth more -/
def cnt (f : Nat → Bool) : Nat → Nat
  | 0 => 0
  | k + 1 => cnt f k + (if f k = true then 1 else 0)
theorem cnt_le {f g : Nat → Bool} : ∀ {k : Nat}, (∀ s, s < k → f s = true → g s = true) → cnt f k ≤ cnt g k
  | 0, _ => Nat.le_refl _
  | k + 1, h => by
    have h1 := cnt_le (f := f) (g := g) (k := k) (fun s hs => h s (by omega))
    have h2 := h k (by omega)
    unfold cnt
    by_cases e : f k = true
    · rw [if_pos e, if_pos (h2 e)]; omega
    · rw [if_neg e]; omega
theorem cnt_lt {f g : Nat → Bool} {s : Nat} : ∀ {k : Nat}, (∀ s, s < k → f s = true → g s = true) → s < k → g s = true → ¬ f s = true → cnt f k < cnt g k
  | 0, _, h, _, _ => absurd h (by omega)
  | k + 1, h, hs, h1, h2 => by
    unfold cnt
    by_cases e : s = k
    · have h3 := cnt_le (f := f) (g := g) (k := k) (fun s hs => h s (by omega))
      rw [← e] at h3 ⊢
      rw [if_neg h2, if_pos h1]
      omega
    · have h3 := cnt_lt (f := f) (g := g) (s := s) (k := k) (fun s hs => h s (by omega)) (by omega) h1 h2
      have h4 := h k (by omega)
      by_cases e2 : f k = true
      · rw [if_pos e2, if_pos (h4 e2)]; omega
      · rw [if_neg e2]; omega
theorem cnt_all (k : Nat) : cnt (fun _ => true) k = k := by
  induction k with
  | zero => rfl
  | succ k ih =>
    unfold cnt
    rw [ih]
    rfl
def ex_more (I : aw_MI) (n m t S S' : Nat) : Bool := decide (0 < ex_b I n m S' ∧ ex_N I n m t S * (ex_b I n m S' * ex_b I n m S') < ex_N I n m t S' * (ex_b I n m S * ex_b I n m S))
theorem more_tr {a b c : Int} {p q r : Int} (hq : 0 < q) (hp : 0 < p) (hr : 0 < r) (h1 : a * q < b * p) (h2 : b * r < c * q) : a * r < c * p := by
  have h3 : a * q * r < b * p * r := Int.mul_lt_mul_of_pos_right h1 hr
  have h4 : b * r * p < c * q * p := Int.mul_lt_mul_of_pos_right h2 hp
  have h5 : q * (a * r) < q * (c * p) := by
    have e1 : a * q * r = q * (a * r) := by grind
    have e2 : c * q * p = q * (c * p) := by grind
    have e3 : b * p * r = b * r * p := by grind
    omega
  exact Int.lt_of_mul_lt_mul_left h5 (Int.le_of_lt hq)
theorem rg.T {I : aw_MI} {n m : Nat} (h : rg I n m) (hp : ¬ rp_ac (I 66) n = 0) {t : Nat} (ht : t ≤ 40) (hT : I 65 3 = nI t) : ∀ (z w : Nat), w < 2 ^ m → rx_ok I n m w → (∀ l, l < m → ¬ I 68 (6 * l) = nI 2 → 0 ≤ ex_y I n m w t l) → cnt (ex_more I n m t w) 64 < z → rw_T (rw_lf I n m) (rw_nx I n m) m z (nI w)
  | 0, _, _, _, _, hc => absurd hc (by omega)
  | z + 1, w, hw, ho, hy, hc => by
    have m6 := h.m6
    have h64 := lt64 m6 hw
    unfold rw_T
    rw [nI_clamp (show w < 2 ^ 31 by omega)]
    refine Or.inr ?_
    by_cases e : rw_lf I n m w = m
    · exact Or.inl e
    refine Or.inr ?_
    have hle := (rw_f_le (rx_hb I n m (I 65 3) w) m 0).2
    have hl : rw_lf I n m w < m := by
      unfold rw_lf at e ⊢
      omega
    have hno := rw_f_no (rx_hb I n m (I 65 3) w) m 0 (by unfold rw_lf at hl; omega)
    have hS : w ||| 2 ^ rw_lf I n m w < 2 ^ m := or_lt hw hl
    rcases find_r (rx_gb I n m (nI (w ||| 2 ^ rw_lf I n m w)) (I 65 3)) (nI (w ||| 2 ^ rw_lf I n m w)) ((w ||| 2 ^ rw_lf I n m w) + 1) 0 with e2 | ⟨w', -, g2, g3, g4, -⟩
    · have e3 : rw_nx I n m w = -1 := e2
      rw [e3]
      cases z with
      | zero => rfl
      | succ z => exact Or.inl rfl
    · have e3 : rw_nx I n m w = nI w' := g3
      rw [e3]
      rw [hT] at g4 hno
      have hno2 : ¬ rx_hb I n m (nI t) w (rw_lf I n m w) = true := by
        unfold rw_lf
        rw [hT]
        exact hno
      have hs := h.step hp ht hw ho hy hl hno2 g4
      obtain ⟨ho', -, hy'⟩ := h.gbI ht g4
      have hw' : w' < 2 ^ m := by omega
      have hb := (h.b0 ho).1
      have hb' := (h.b0 ho').1
      refine rg.T h hp ht hT z w' hw' ho' hy' ?_
      have h5 : cnt (ex_more I n m t w') 64 < cnt (ex_more I n m t w) 64 := by
        refine cnt_lt (s := w') (fun s hs1 hs2 => ?_) (lt64 m6 hw') ?_ ?_
        · unfold ex_more at hs2 ⊢
          rw [decide_eq_true_eq] at hs2 ⊢
          exact ⟨hs2.1, more_tr (Int.mul_pos hb' hb') (Int.mul_pos hb hb) (Int.mul_pos hs2.1 hs2.1) hs hs2.2⟩
        · unfold ex_more
          rw [decide_eq_true_eq]
          exact ⟨hb', hs⟩
        · unfold ex_more
          rw [decide_eq_true_eq]
          intro q
          exact absurd q.2 (Int.lt_irrefl _)
      omega
theorem cx_n0 : ∀ m, m < 7 → cx_n 0 m = 0 := by decide +kernel
theorem rg.ok0 {I : aw_MI} {n m : Nat} (h : rg I n m) (hp : ¬ rp_ac (I 66) n = 0) : rx_ok I n m 0 := by
  have e := cx_n0 m (by have := h.m6; omega)
  have h1 : cx_n 0 m ≤ n := by omega
  refine ⟨h1, fun e2 => ?_⟩
  rw [eq0_64, (h.dI h1).1] at e2
  unfold ex_D at e2
  have h2 := h.pd hp (cx_mb 0 m) (n + cx_n 0 m) (by omega)
  omega
theorem rg.T0 {I : aw_MI} {n m : Nat} (h : rg I n m) (hp : ¬ rp_ac (I 66) n = 0) {t : Nat} (ht : t ≤ 40) (hT : I 65 3 = nI t) : rw_T (rw_lf I n m) (rw_nx I n m) m 64 (nI 0) := by
  refine h.T hp ht hT 64 0 (Nat.pow_pos (by decide)) (h.ok0 hp) (fun l hl _ => ?_) ?_
  · unfold ex_y
    rw [cx_n0 m (by have := h.m6; omega)]
    exact Int.le_refl _
  · have h1 := cnt_lt (f := ex_more I n m t 0) (g := fun _ => true) (s := 0) (k := 64) (fun _ _ _ => rfl) (by omega) rfl (by
      unfold ex_more
      rw [decide_eq_true_eq]
      intro q
      exact absurd q.2 (Int.lt_irrefl _))
    rw [cnt_all] at h1
    exact h1

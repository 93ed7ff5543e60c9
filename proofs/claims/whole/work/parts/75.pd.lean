/-! A PROPER BOWL: no place but 0 has a bend of 0 -/
theorem dt_1 (C : Nat → Nat → Int) : dt 1 C = C 0 0 := by
  simp [dt, dt_sm, dt_sg]
theorem dt_2 (C : Nat → Nat → Int) : dt 2 C = C 0 0 * C 1 1 - C 1 0 * C 0 1 := by
  simp [dt, dt_sm, dt_sg, dt_dr]
  grind
theorem dt_3 (C : Nat → Nat → Int) : dt 3 C = C 0 0 * (C 1 1 * C 2 2 - C 2 1 * C 1 2) - C 1 0 * (C 0 1 * C 2 2 - C 2 1 * C 0 2) + C 2 0 * (C 0 1 * C 1 2 - C 1 1 * C 0 2) := by
  simp [dt, dt_sm, dt_sg, dt_dr]
  grind
theorem sq_nn (a : Int) : 0 ≤ a * a := by
  rcases Int.le_total 0 a with h | h
  · exact Int.mul_nonneg h h
  · exact Int.mul_nonneg_of_nonpos_of_nonpos h h
theorem sq_0 {a : Int} (h : a * a = 0) : a = 0 := by
  rcases Int.mul_eq_zero.mp h with h | h <;> exact h
theorem psq_0 {p a : Int} (hp : 0 < p) (h : p * (a * a) ≤ 0) : a = 0 := by
  have h1 := sq_nn a
  have h2 := Int.mul_nonneg (Int.le_of_lt hp) h1
  have h3 : p * (a * a) = 0 := by omega
  rcases Int.mul_eq_zero.mp h3 with h4 | h4
  · omega
  · exact sq_0 h4
/-- how the place x is bent -/
def qf (C : Nat → Nat → Int) (x : Nat → Int) (n : Nat) : Int := dt_sm (fun r => x r * dt_sm (fun j => C j r * x j) n) n
theorem qf_1 {C : Nat → Nat → Int} {x : Nat → Int} (hp : 0 < dt 1 C) : 0 ≤ qf C x 1 ∧ (qf C x 1 = 0 → x 0 = 0) := by
  rw [dt_1] at hp
  have e : qf C x 1 = C 0 0 * (x 0 * x 0) := by
    simp only [qf, dt_sm]
    grind
  rw [e]
  refine ⟨Int.mul_nonneg (by omega) (sq_nn _), fun h => psq_0 hp (by omega)⟩
theorem pos_nn {a b : Int} (ha : 0 < a) (h : 0 ≤ a * b) : 0 ≤ b := by
  by_cases h1 : b < 0
  · have := Int.mul_neg_of_pos_of_neg ha h1
    omega
  · omega
theorem qf_2 {C : Nat → Nat → Int} {x : Nat → Int} (h01 : C 1 0 = C 0 1) (hp1 : 0 < dt 1 C) (hp2 : 0 < dt 2 C) : 0 ≤ qf C x 2 ∧ (qf C x 2 = 0 → x 0 = 0 ∧ x 1 = 0) := by
  rw [dt_1] at hp1
  have e : C 0 0 * qf C x 2 = (C 0 0 * x 0 + C 1 0 * x 1) * (C 0 0 * x 0 + C 1 0 * x 1) + dt 2 C * (x 1 * x 1) := by
    rw [dt_2]
    simp only [qf, dt_sm]
    rw [← h01]
    grind
  have s1 := sq_nn (C 0 0 * x 0 + C 1 0 * x 1)
  have s2 := Int.mul_nonneg (Int.le_of_lt hp2) (sq_nn (x 1))
  refine ⟨pos_nn hp1 (by omega), fun h => ?_⟩
  rw [h, Int.mul_zero] at e
  have y1 : x 1 = 0 := psq_0 hp2 (by omega)
  rw [y1] at e
  simp only [Int.mul_zero, Int.add_zero] at e
  have y2 := sq_0 e.symm
  rcases Int.mul_eq_zero.mp y2 with h4 | h4
  · omega
  · exact ⟨h4, y1⟩
theorem qf_3 {C : Nat → Nat → Int} {x : Nat → Int} (h01 : C 1 0 = C 0 1) (h02 : C 2 0 = C 0 2) (h12 : C 2 1 = C 1 2) (hp1 : 0 < dt 1 C) (hp2 : 0 < dt 2 C) (hp3 : 0 < dt 3 C) : 0 ≤ qf C x 3 ∧ (qf C x 3 = 0 → x 0 = 0 ∧ x 1 = 0 ∧ x 2 = 0) := by
  rw [dt_1] at hp1
  have e : (C 0 0 * dt 2 C) * qf C x 3 = dt 2 C * ((C 0 0 * x 0 + C 1 0 * x 1 + C 2 0 * x 2) * (C 0 0 * x 0 + C 1 0 * x 1 + C 2 0 * x 2)) + (dt 2 C * x 1 + (C 0 0 * C 2 1 - C 1 0 * C 2 0) * x 2) * (dt 2 C * x 1 + (C 0 0 * C 2 1 - C 1 0 * C 2 0) * x 2) + C 0 0 * dt 3 C * (x 2 * x 2) := by
    rw [dt_2, dt_3]
    simp only [qf, dt_sm]
    rw [← h01, ← h02, ← h12]
    grind
  have s1 := Int.mul_nonneg (Int.le_of_lt hp2) (sq_nn (C 0 0 * x 0 + C 1 0 * x 1 + C 2 0 * x 2))
  have s2 := sq_nn (dt 2 C * x 1 + (C 0 0 * C 2 1 - C 1 0 * C 2 0) * x 2)
  have p3 := Int.mul_pos hp1 hp3
  have s3 := Int.mul_nonneg (Int.le_of_lt p3) (sq_nn (x 2))
  refine ⟨pos_nn (Int.mul_pos hp1 hp2) (by omega), fun h => ?_⟩
  rw [h, Int.mul_zero] at e
  have y2 : x 2 = 0 := psq_0 p3 (by omega)
  rw [y2] at e s1 s2
  simp only [Int.mul_zero, Int.add_zero] at e s1 s2
  have y1 : dt 2 C * x 1 = 0 := sq_0 (by omega)
  have z1 : x 1 = 0 := by
    rcases Int.mul_eq_zero.mp y1 with h4 | h4
    · omega
    · exact h4
  rw [z1] at e s1 s2
  simp only [Int.mul_zero, Int.add_zero] at e s1 s2
  have y0 : C 0 0 * x 0 = 0 := by
    rcases Int.mul_eq_zero.mp e.symm with h4 | h4
    · omega
    · exact sq_0 h4
  rcases Int.mul_eq_zero.mp y0 with h4 | h4
  · omega
  · exact ⟨h4, z1, y2⟩
theorem qf_nn {n : Nat} {C : Nat → Nat → Int} {x : Nat → Int} (n1 : 1 ≤ n) (n3 : n ≤ 3) (sy : ∀ j r, j < n → r < n → C j r = C r j) (hp : ∀ k, k ≤ n → 0 < dt k C) : 0 ≤ qf C x n ∧ (qf C x n = 0 → ∀ i, i < n → x i = 0) := by
  rcases (by omega : n = 1 ∨ n = 2 ∨ n = 3) with rfl | rfl | rfl
  · have h := qf_1 (x := x) (hp 1 (by omega))
    refine ⟨h.1, fun e i hi => ?_⟩
    rw [show i = 0 by omega]; exact h.2 e
  · have h := qf_2 (x := x) (sy 1 0 (by omega) (by omega)) (hp 1 (by omega)) (hp 2 (by omega))
    refine ⟨h.1, fun e i hi => ?_⟩
    rcases (by omega : i = 0 ∨ i = 1) with rfl | rfl
    · exact (h.2 e).1
    · exact (h.2 e).2
  · have h := qf_3 (x := x) (sy 1 0 (by omega) (by omega)) (sy 2 0 (by omega) (by omega)) (sy 2 1 (by omega) (by omega)) (hp 1 (by omega)) (hp 2 (by omega)) (hp 3 (by omega))
    refine ⟨h.1, fun e i hi => ?_⟩
    rcases (by omega : i = 0 ∨ i = 1 ∨ i = 2) with rfl | rfl | rfl
    · exact (h.2 e).1
    · exact (h.2 e).2.1
    · exact (h.2 e).2.2

theorem dt_sm_add (f : Nat → Int) (n : Nat) : ∀ k, dt_sm f (n + k) = dt_sm f n + dt_sm (fun i => f (n + i)) k
  | 0 => by
    show dt_sm f n = dt_sm f n + 0
    omega
  | k + 1 => by
    show dt_sm f (n + k) + f (n + k) = dt_sm f n + (dt_sm (fun i => f (n + i)) k + f (n + k))
    rw [dt_sm_add f n k]
    omega
theorem dt_sm_ad (f g : Nat → Int) : ∀ n, dt_sm (fun i => f i + g i) n = dt_sm f n + dt_sm g n
  | 0 => rfl
  | n + 1 => by
    show dt_sm (fun i => f i + g i) n + (f n + g n) = dt_sm f n + f n + (dt_sm g n + g n)
    rw [dt_sm_ad f g n]
    omega
theorem dt_sm_fub (f : Nat → Nat → Int) (k : Nat) : ∀ n, dt_sm (fun r => dt_sm (fun i => f r i) k) n = dt_sm (fun i => dt_sm (fun r => f r i) n) k
  | 0 => by
    show 0 = _
    exact (dt_sm_0 (fun i _ => rfl)).symm
  | n + 1 => by
    show dt_sm (fun r => dt_sm (fun i => f r i) k) n + dt_sm (fun i => f n i) k = _
    rw [dt_sm_fub f k n, ← dt_sm_ad]
    rfl
/-- z with a row sum of 0 in the lines' rows: what the bends make of it is what the weights make -/
theorem qf_cross {n k : Nat} {C : Nat → Nat → Int} {z : Nat → Int} (sy : ∀ j r, j < n + k → r < n + k → C j r = C r j) : dt_sm (fun r => z r * dt_sm (fun j => C j r * z j) (n + k)) n = qf C z n + dt_sm (fun i => z (n + i) * dt_sm (fun j => C j (n + i) * z j) n) k := by
  have e1 : dt_sm (fun r => z r * dt_sm (fun j => C j r * z j) (n + k)) n = qf C z n + dt_sm (fun r => dt_sm (fun i => z r * (C (n + i) r * z (n + i))) k) n := by
    unfold qf
    rw [← dt_sm_ad]
    refine dt_sm_c (fun r _ => ?_)
    show _ = z r * dt_sm (fun j => C j r * z j) n + dt_sm (fun i => z r * (C (n + i) r * z (n + i))) k
    rw [dt_sm_mul, dt_sm_add, Int.mul_add]
  rw [e1, dt_sm_fub]
  congr 1
  refine dt_sm_c (fun i hi => ?_)
  show _ = z (n + i) * dt_sm (fun j => C j (n + i) * z j) n
  rw [← dt_sm_mul]
  refine dt_sm_c (fun r hr => ?_)
  show z r * (C (n + i) r * z (n + i)) = z (n + i) * (C r (n + i) * z r)
  rw [sy (n + i) r (by omega) (by omega)]
  grind
/-- a pivot of 0 behind the bends: the lines depend on each other -/
theorem dt_ker {n w : Nat} {C : Nat → Nat → Int} (n1 : 1 ≤ n) (n3 : n ≤ 3) (sy : ∀ j r, j < w → r < w → C j r = C r j) (hz : ∀ j r, n ≤ j → n ≤ r → C j r = 0) (hp : ∀ k, k ≤ n → 0 < dt k C) {q : Nat} (hq : n ≤ q) (hqw : q < w) (hD : ∀ p, p ≤ q → dt p C ≠ 0) (h0 : dt (q + 1) C = 0) : dt w C = 0 := by
  have hz0 := dt_zero (C := C) (q := q) (fun p h => hD p (by omega)) (C q)
  generalize hzz : (fun j => if j < q then dt_x C q (C q) j else -dt q C) = z
  have zq : z q = -dt q C := by rw [← hzz]; exact if_neg (Nat.lt_irrefl _)
  have hrow : ∀ r, r < q + 1 → dt_sm (fun j => C j r * z j) (q + 1) = 0 := by
    intro r hr
    have e1 : dt_sm (fun j => C j r * z j) q = dt_sm (fun j => C j r * dt_x C q (C q) j) q := by
      refine dt_sm_c (fun j hj => ?_)
      show C j r * z j = _
      rw [← hzz]
      show C j r * (if j < q then dt_x C q (C q) j else -dt q C) = _
      rw [if_pos hj]
    have e2 : dt_e C q (C q) r = 0 := by
      by_cases e : r < q
      · exact hz0 r e
      · rw [show r = q by omega, ← dt_pv, h0]
    unfold dt_e at e2
    show dt_sm (fun j => C j r * z j) q + C q r * z q = 0
    rw [e1, zq, Int.mul_neg, Int.mul_comm]
    omega
  obtain ⟨k, hk⟩ : ∃ k, q + 1 = n + k := ⟨q + 1 - n, by omega⟩
  have hx : qf C z n = 0 := by
    have h1 := qf_cross (n := n) (k := k) (C := C) (z := z) (fun j r hj hr => sy j r (by omega) (by omega))
    have h2 : dt_sm (fun r => z r * dt_sm (fun j => C j r * z j) (n + k)) n = 0 := by
      refine dt_sm_0 (fun r hr => ?_)
      show z r * dt_sm (fun j => C j r * z j) (n + k) = 0
      rw [← hk, hrow r (by omega), Int.mul_zero]
    have h3 : dt_sm (fun i => z (n + i) * dt_sm (fun j => C j (n + i) * z j) n) k = 0 := by
      refine dt_sm_0 (fun i hi => ?_)
      show z (n + i) * dt_sm (fun j => C j (n + i) * z j) n = 0
      have h4 := hrow (n + i) (by omega)
      rw [hk, dt_sm_add] at h4
      have h5 : dt_sm (fun j => C (n + j) (n + i) * z (n + j)) k = 0 := by
        refine dt_sm_0 (fun j hj => ?_)
        show C (n + j) (n + i) * z (n + j) = 0
        rw [hz _ _ (by omega) (by omega), Int.zero_mul]
      rw [h5] at h4
      rw [show dt_sm (fun j => C j (n + i) * z j) n = 0 by omega, Int.mul_zero]
    omega
  have hx0 := (qf_nn (x := z) n1 n3 (fun j r hj hr => sy j r (by omega) (by omega)) hp).2 hx
  have hall : ∀ r, r < w → dt_sm (fun i => z i * C i r) (q + 1) = 0 := by
    intro r hr
    by_cases e : r < n
    · have h1 := hrow r (by omega)
      rw [← h1]
      exact dt_sm_c (fun i _ => Int.mul_comm _ _)
    · refine dt_sm_0 (fun i hi => ?_)
      show z i * C i r = 0
      by_cases e2 : i < n
      · rw [hx0 i e2, Int.zero_mul]
      · rw [hz i r (by omega) (by omega), Int.mul_zero]
  have h1 := dt_comb (k := w) (C := C) (j := q) hqw z (q + 1) (by omega)
  rw [if_pos (by omega)] at h1
  have h2 : dt w (dt_rp C q (fun r => dt_sm (fun i => z i * C i r) (q + 1))) = 0 := by
    refine dt_0col hqw (fun r hr => ?_)
    unfold dt_rp
    rw [if_pos rfl]
    exact hall r hr
  rw [h2, zq] at h1
  have h3 := hD q (Nat.le_refl _)
  rcases Int.mul_eq_zero.mp h1.symm with h4 | h4
  · omega
  · exact h4
/-- all pivots, if the last determinant isn't 0 -/
theorem dt_piv {n w : Nat} {C : Nat → Nat → Int} (n1 : 1 ≤ n) (n3 : n ≤ 3) (sy : ∀ j r, j < w → r < w → C j r = C r j) (hz : ∀ j r, n ≤ j → n ≤ r → C j r = 0) (hp : ∀ k, k ≤ n → 0 < dt k C) (hw : dt w C ≠ 0) : ∀ p, p ≤ w → dt p C ≠ 0
  | 0, _ => by
    show (1 : Int) ≠ 0
    decide
  | q + 1, hq => by
    intro h0
    have hD : ∀ p, p ≤ q → dt p C ≠ 0 := fun p h => dt_piv n1 n3 sy hz hp hw p (by omega)
    by_cases e : q < n
    · have := hp (q + 1) (by omega)
      omega
    · exact hw (dt_ker n1 n3 sy hz hp (by omega) (by omega) hD h0)

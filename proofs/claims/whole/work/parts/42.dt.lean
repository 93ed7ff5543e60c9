/-! DETERMINANTS of whole numbers: columns C j, rows r; by the last row, as the reference does it -/
def dt_sg : Nat → Int
  | 0 => 1
  | n + 1 => -dt_sg n
theorem dt_sg_add (a : Nat) : ∀ b, dt_sg (a + b) = dt_sg a * dt_sg b
  | 0 => by simp [dt_sg]
  | b + 1 => by
    show -dt_sg (a + b) = dt_sg a * -dt_sg b
    rw [dt_sg_add a b]
    grind
theorem dt_sg_sq : ∀ a, dt_sg a * dt_sg a = 1
  | 0 => rfl
  | a + 1 => by
    show -dt_sg a * -dt_sg a = 1
    have := dt_sg_sq a
    grind
theorem dt_sg_even : ∀ a, dt_sg (2 * a) = 1
  | 0 => rfl
  | a + 1 => by
    show - -dt_sg (2 * a) = 1
    rw [dt_sg_even a]
    rfl
theorem dt_sg_par (a : Nat) : dt_sg a = if a % 2 = 0 then 1 else -1 := by
  by_cases h : a % 2 = 0
  · rw [if_pos h, show a = 2 * (a / 2) by omega, dt_sg_even]
  · rw [if_neg h, show a = 2 * (a / 2) + 1 by omega]
    show -dt_sg _ = -1
    rw [dt_sg_even]
def dt_sm (f : Nat → Int) : Nat → Int
  | 0 => 0
  | n + 1 => dt_sm f n + f n
theorem dt_sm_c {f g : Nat → Int} : ∀ {n : Nat}, (∀ i, i < n → f i = g i) → dt_sm f n = dt_sm g n
  | 0, _ => rfl
  | n + 1, h => by
    show dt_sm f n + f n = dt_sm g n + g n
    rw [dt_sm_c (fun i hi => h i (by omega)), h n (by omega)]
theorem dt_sm_lin (a b : Int) (f g : Nat → Int) : ∀ n, dt_sm (fun i => a * f i + b * g i) n = a * dt_sm f n + b * dt_sm g n
  | 0 => by simp [dt_sm]
  | n + 1 => by
    show dt_sm _ n + (a * f n + b * g n) = a * (dt_sm f n + f n) + b * (dt_sm g n + g n)
    rw [dt_sm_lin a b f g n]
    grind
theorem dt_sm_0 {f : Nat → Int} : ∀ {n : Nat}, (∀ i, i < n → f i = 0) → dt_sm f n = 0
  | 0, _ => rfl
  | n + 1, h => by
    show dt_sm f n + f n = 0
    rw [dt_sm_0 (fun i hi => h i (by omega)), h n (by omega)]
    rfl
theorem dt_sm_neg (f : Nat → Int) : ∀ n, dt_sm (fun i => -f i) n = -dt_sm f n
  | 0 => rfl
  | n + 1 => by
    show dt_sm _ n + -f n = -(dt_sm f n + f n)
    rw [dt_sm_neg f n]
    omega
theorem dt_sm_mul (a : Int) (f : Nat → Int) : ∀ n, dt_sm (fun i => a * f i) n = a * dt_sm f n
  | 0 => by simp [dt_sm]
  | n + 1 => by
    show dt_sm _ n + a * f n = a * (dt_sm f n + f n)
    rw [dt_sm_mul a f n]
    grind
theorem dt_sm_1 {f : Nat → Int} {j : Nat} : ∀ {n : Nat}, j < n → (∀ i, i < n → i ≠ j → f i = 0) → dt_sm f n = f j
  | 0, h, _ => absurd h (by omega)
  | n + 1, h, h0 => by
    show dt_sm f n + f n = f j
    by_cases e : j = n
    · subst e
      rw [dt_sm_0 (fun i hi => h0 i (by omega) (by omega))]
      omega
    · rw [dt_sm_1 (j := j) (by omega) (fun i hi hj => h0 i (by omega) hj), h0 n (by omega) (by omega)]
      omega
theorem dt_sm_sw {f g : Nat → Int} {j : Nat} : ∀ {n : Nat}, j + 1 < n → (∀ i, i < n → i ≠ j → i ≠ j + 1 → g i = f i) → g j = f (j + 1) → g (j + 1) = f j → dt_sm g n = dt_sm f n
  | 0, h, _, _, _ => absurd h (by omega)
  | n + 1, h, h0, h1, h2 => by
    show dt_sm g n + g n = dt_sm f n + f n
    by_cases e : n = j + 1
    · subst e
      show dt_sm g j + g j + g (j + 1) = dt_sm f j + f j + f (j + 1)
      rw [dt_sm_c (n := j) (f := g) (g := f) (fun i hi => h0 i (by omega) (by omega) (by omega)), h1, h2]
      omega
    · rw [dt_sm_sw (j := j) (n := n) (by omega) (fun i hi a b => h0 i (by omega) a b) h1 h2, h0 n (by omega) (by omega) e]
/-- without column j -/
def dt_dr (C : Nat → Nat → Int) (j : Nat) : Nat → Nat → Int := fun i => if i < j then C i else C (i + 1)
/-- with v as column j -/
def dt_rp (C : Nat → Nat → Int) (j : Nat) (v : Nat → Int) : Nat → Nat → Int := fun i => if i = j then v else C i
/-- columns j and j + 1 changed about -/
def dt_sw (C : Nat → Nat → Int) (j : Nat) : Nat → Nat → Int := fun i => if i = j then C (j + 1) else if i = j + 1 then C j else C i
def dt : Nat → (Nat → Nat → Int) → Int
  | 0, _ => 1
  | k + 1, C => dt_sm (fun j => dt_sg (k + j) * C j k * dt k (dt_dr C j)) (k + 1)
theorem dt_s (k : Nat) (C : Nat → Nat → Int) : dt (k + 1) C = dt_sm (fun j => dt_sg (k + j) * C j k * dt k (dt_dr C j)) (k + 1) := rfl
theorem dt_c : ∀ {k : Nat} {C E : Nat → Nat → Int}, (∀ j r, j < k → r < k → C j r = E j r) → dt k C = dt k E
  | 0, _, _, _ => rfl
  | k + 1, C, E, h => by
    rw [dt_s, dt_s]
    refine dt_sm_c (fun j hj => ?_)
    rw [h j k hj (by omega), dt_c (k := k) (C := dt_dr C j) (E := dt_dr E j) (fun i r hi hr => ?_)]
    unfold dt_dr
    by_cases e : i < j
    · rw [if_pos e, if_pos e]
      exact h i r (by omega) (by omega)
    · rw [if_neg e, if_neg e]
      exact h (i + 1) r (by omega) (by omega)
theorem dt_dr_rp (C : Nat → Nat → Int) (j : Nat) (v : Nat → Int) : dt_dr (dt_rp C j v) j = dt_dr C j := by
  funext i
  simp only [dt_dr, dt_rp]
  repeat' split
  all_goals first | rfl | omega | (exfalso; omega) | (congr 1; omega)
theorem dt_dr_lo (C : Nat → Nat → Int) {i j : Nat} (v : Nat → Int) (h : i < j) : dt_dr (dt_rp C j v) i = dt_rp (dt_dr C i) (j - 1) v := by
  funext q
  simp only [dt_dr, dt_rp]
  repeat' split
  all_goals first | rfl | omega | (exfalso; omega) | (congr 1; omega)
theorem dt_dr_hi (C : Nat → Nat → Int) {i j : Nat} (v : Nat → Int) (h : j < i) : dt_dr (dt_rp C j v) i = dt_rp (dt_dr C i) j v := by
  funext q
  simp only [dt_dr, dt_rp]
  repeat' split
  all_goals first | rfl | omega | (exfalso; omega) | (congr 1; omega)
theorem dt_lin (a b : Int) (u v : Nat → Int) : ∀ {k : Nat} {C : Nat → Nat → Int} {j : Nat}, j < k → dt k (dt_rp C j (fun r => a * u r + b * v r)) = a * dt k (dt_rp C j u) + b * dt k (dt_rp C j v)
  | 0, _, _, h => absurd h (by omega)
  | k + 1, C, j, h => by
    rw [dt_s, dt_s, dt_s, ← dt_sm_lin]
    refine dt_sm_c (fun i hi => ?_)
    by_cases e : i = j
    · subst e
      rw [dt_dr_rp, dt_dr_rp, dt_dr_rp]
      simp only [dt_rp, if_pos]
      grind
    · have e1 : ∀ v, dt_rp C j v i k = C i k := fun v => by unfold dt_rp; rw [if_neg e]
      rw [e1, e1, e1]
      by_cases e2 : i < j
      · rw [dt_dr_lo C _ e2, dt_dr_lo C _ e2, dt_dr_lo C _ e2, dt_lin a b u v (k := k) (by omega)]
        grind
      · rw [dt_dr_hi C _ (by omega), dt_dr_hi C _ (by omega), dt_dr_hi C _ (by omega), dt_lin a b u v (k := k) (by omega)]
        grind
theorem dt_swap : ∀ {k : Nat} {C : Nat → Nat → Int} {j : Nat}, j + 1 < k → dt k (dt_sw C j) = -dt k C
  | 0, _, _, h => absurd h (by omega)
  | k + 1, C, j, h => by
    rw [dt_s, dt_s, ← dt_sm_neg]
    refine dt_sm_sw (j := j) h (fun i hi h1 h2 => ?_) ?_ ?_
    · have e1 : dt_sw C j i k = C i k := by unfold dt_sw; rw [if_neg h1, if_neg h2]
      rw [e1]
      by_cases e2 : i < j
      · have e3 : dt_dr (dt_sw C j) i = dt_sw (dt_dr C i) (j - 1) := by
          funext q
          simp only [dt_dr, dt_sw]
          repeat' split
          all_goals first | rfl | omega | (exfalso; omega) | (congr 1; omega)
        rw [e3, dt_swap (k := k) (by omega)]
        grind
      · have e3 : dt_dr (dt_sw C j) i = dt_sw (dt_dr C i) j := by
          funext q
          simp only [dt_dr, dt_sw]
          repeat' split
          all_goals first | rfl | omega | (exfalso; omega) | (congr 1; omega)
        rw [e3, dt_swap (k := k) (by omega)]
        grind
    · have e1 : dt_dr (dt_sw C j) j = dt_dr C (j + 1) := by
        funext q
        simp only [dt_dr, dt_sw]
        repeat' split
        all_goals first | rfl | omega | (exfalso; omega) | (congr 1; omega)
      have e2 : dt_sw C j j k = C (j + 1) k := by unfold dt_sw; rw [if_pos rfl]
      have e3 : dt_sg (k + (j + 1)) = -dt_sg (k + j) := rfl
      rw [e1, e2, e3]
      grind
    · have e1 : dt_dr (dt_sw C j) (j + 1) = dt_dr C j := by
        funext q
        simp only [dt_dr, dt_sw]
        repeat' split
        all_goals first | rfl | omega | (exfalso; omega) | (congr 1; omega)
      have e2 : dt_sw C j (j + 1) k = C j k := by unfold dt_sw; rw [if_neg (by omega), if_pos rfl]
      have e3 : dt_sg (k + (j + 1)) = -dt_sg (k + j) := rfl
      rw [e1, e2, e3]
      grind
theorem dt_eq0 {k : Nat} : ∀ (z : Nat) {C : Nat → Nat → Int} {i j : Nat}, j = i + 1 + z → j < k → C i = C j → dt k C = 0
  | 0, C, i, j, h, hj, he => by
    subst h
    have h1 := dt_swap (k := k) (C := C) (j := i) hj
    have h2 : dt_sw C i = C := by
      funext q
      simp only [dt_sw]
      repeat' split
      all_goals (subst_vars; first | rfl | exact he.symm | exact he)
    rw [h2] at h1
    omega
  | z + 1, C, i, j, h, hj, he => by
    have h1 := dt_swap (k := k) (C := C) (j := j - 1) (by omega)
    have a1 : dt_sw C (j - 1) i = C i := by
      unfold dt_sw
      rw [if_neg (show ¬ i = j - 1 by omega), if_neg (show ¬ i = j - 1 + 1 by omega)]
    have a2 : dt_sw C (j - 1) (j - 1) = C j := by
      unfold dt_sw
      rw [if_pos rfl, show j - 1 + 1 = j by omega]
    have h2 := @dt_eq0 k z (dt_sw C (j - 1)) i (j - 1) (by omega) (by omega) (a1.trans (he.trans a2.symm))
    omega
theorem dt_rp_eq {k : Nat} {C : Nat → Nat → Int} {i j : Nat} (hi : i < k) (hj : j < k) (h : i ≠ j) : dt k (dt_rp C j (C i)) = 0 := by
  have e1 : dt_rp C j (C i) i = C i := by unfold dt_rp; rw [if_neg h]
  have e2 : dt_rp C j (C i) j = C i := by unfold dt_rp; rw [if_pos rfl]
  by_cases a : i < j
  · exact dt_eq0 (j - i - 1) (i := i) (j := j) (by omega) hj (e1.trans e2.symm)
  · exact dt_eq0 (i - j - 1) (i := j) (j := i) (by omega) hi (e2.trans e1.symm)
theorem dt_rp_self (C : Nat → Nat → Int) (j : Nat) : dt_rp C j (C j) = C := by
  funext i
  simp only [dt_rp]
  repeat' split
  all_goals first | rfl | omega | (exfalso; omega) | (congr 1; omega)
theorem dt_0col : ∀ {k : Nat} {C : Nat → Nat → Int} {j : Nat}, j < k → (∀ r, r < k → C j r = 0) → dt k C = 0 := by
  intro k C j hj h
  have e := dt_lin 0 0 (C j) (C j) (C := C) hj
  rw [dt_c (E := C) (fun i r hi hr => ?_)] at e
  · omega
  · unfold dt_rp
    by_cases a : i = j
    · rw [if_pos a, a, h r hr]
      omega
    · rw [if_neg a]
/-- a column that is a sum of columns -/
theorem dt_comb {k : Nat} {C : Nat → Nat → Int} {j : Nat} (hj : j < k) (z : Nat → Int) : ∀ p, p ≤ k → dt k (dt_rp C j (fun r => dt_sm (fun i => z i * C i r) p)) = if j < p then z j * dt k C else 0
  | 0, _ => by
    rw [if_neg (by omega)]
    exact dt_0col hj (fun r _ => by unfold dt_rp; rw [if_pos rfl]; rfl)
  | p + 1, h => by
    have e : (fun r => dt_sm (fun i => z i * C i r) (p + 1)) = fun r => 1 * (fun r => dt_sm (fun i => z i * C i r) p) r + z p * C p r := by
      funext r
      show dt_sm _ p + z p * C p r = 1 * dt_sm (fun i => z i * C i r) p + z p * C p r
      omega
    rw [e, dt_lin _ _ _ _ hj, dt_comb hj z p (by omega)]
    by_cases a : j = p
    · subst a
      rw [if_neg (by omega), if_pos (by omega), dt_rp_self]
      omega
    · rw [dt_rp_eq (by omega) hj (Ne.symm a)]
      by_cases b : j < p
      · rw [if_pos b, if_pos (by omega)]
        omega
      · rw [if_neg b, if_neg (by omega)]
        omega
/-- v as column j, moved up to place p -/
def dt_cy (C : Nat → Nat → Int) (j p : Nat) (v : Nat → Int) : Nat → Nat → Int := fun i => if i < j then C i else if i < p then C (i + 1) else if i = p then v else C i
theorem dt_cyc {k : Nat} {C : Nat → Nat → Int} {j : Nat} {v : Nat → Int} : ∀ (z : Nat), j + z < k → dt k (dt_cy C j (j + z) v) = dt_sg z * dt k (dt_rp C j v)
  | 0, h => by
    have e : dt_cy C j (j + 0) v = dt_rp C j v := by
      funext i
      simp only [dt_cy, dt_rp]
      repeat' split
      all_goals first | rfl | omega | (exfalso; omega) | (congr 1; omega)
    rw [e]
    show _ = 1 * _
    omega
  | z + 1, h => by
    have e : dt_cy C j (j + (z + 1)) v = dt_sw (dt_cy C j (j + z) v) (j + z) := by
      funext i
      simp only [dt_sw, dt_cy]
      repeat' split
      all_goals first | rfl | omega | (exfalso; omega) | (congr 1; omega) | grind
    rw [e, dt_swap (by omega), dt_cyc z (by omega)]
    show _ = -dt_sg z * _
    grind
/-- place j of v by the first q columns, above their determinant -/
def dt_x (C : Nat → Nat → Int) (q : Nat) (v : Nat → Int) (j : Nat) : Int := dt q (dt_rp C j v)
/-- what is left of v in row r -/
def dt_e (C : Nat → Nat → Int) (q : Nat) (v : Nat → Int) (r : Nat) : Int := dt q C * v r - dt_sm (fun j => C j r * dt_x C q v j) q
theorem dt_sg_1 {q j : Nat} (h : j < q) : dt_sg (q + j) * dt_sg (q - 1 - j) = -1 := by
  rw [← dt_sg_add, show q + j + (q - 1 - j) = 2 * (q - 1) + 1 by omega]
  show -dt_sg _ = -1
  rw [dt_sg_even]
theorem dt_drl {q j : Nat} {C : Nat → Nat → Int} {v : Nat → Int} (h : j < q) : dt q (dt_dr (dt_rp C q v) j) = dt_sg (q - 1 - j) * dt_x C q v j := by
  have e := dt_cyc (k := q) (C := C) (j := j) (v := v) (q - 1 - j) (by omega)
  rw [show j + (q - 1 - j) = q - 1 by omega] at e
  unfold dt_x
  rw [← e]
  refine dt_c (fun i r hi hr => ?_)
  unfold dt_dr dt_rp dt_cy
  by_cases a : i < j
  · rw [if_pos a, if_pos a, if_neg (by omega)]
  · rw [if_neg a, if_neg a]
    by_cases b : i = q - 1
    · rw [if_pos (by omega), if_neg (by omega), if_pos b]
    · rw [if_neg (by omega), if_pos (by omega)]
/-- the determinant with v last is what is left of v in the last row -/
theorem dt_last (C : Nat → Nat → Int) (q : Nat) (v : Nat → Int) : dt (q + 1) (dt_rp C q v) = dt_e C q v q := by
  rw [dt_s]
  show dt_sm _ q + dt_sg (q + q) * dt_rp C q v q q * dt q (dt_dr (dt_rp C q v) q) = _
  have e1 : dt_sg (q + q) * dt_rp C q v q q * dt q (dt_dr (dt_rp C q v) q) = dt q C * v q := by
    rw [show q + q = 2 * q by omega, dt_sg_even, dt_dr_rp, dt_c (E := C) (fun j r hj _ => by unfold dt_dr; rw [if_pos hj])]
    unfold dt_rp
    rw [if_pos rfl]
    grind
  have e2 : dt_sm (fun j => dt_sg (q + j) * dt_rp C q v j q * dt q (dt_dr (dt_rp C q v) j)) q = -dt_sm (fun j => C j q * dt_x C q v j) q := by
    rw [← dt_sm_neg]
    refine dt_sm_c (fun j hj => ?_)
    rw [dt_drl hj]
    unfold dt_rp
    rw [if_neg (by omega)]
    have := dt_sg_1 hj
    grind
  rw [e1, e2]
  unfold dt_e
  omega
theorem dt_pv (C : Nat → Nat → Int) (q : Nat) : dt (q + 1) C = dt_e C q (C q) q := by
  rw [← dt_last, dt_rp_self]
theorem dt_step1 {C : Nat → Nat → Int} {q : Nat} {v : Nat → Int} {r : Nat} (hr : r < q) (h0 : ∀ i, i < q → dt_e C q v i = 0) : dt q C * dt_x C (q + 1) v r = dt (q + 1) C * dt_x C q v r - dt_x C q (C q) r * dt_e C q v q := by
  have a1 := dt_lin (dt q C) 0 v v (k := q + 1) (C := C) (j := r) (by omega)
  have a2 := dt_lin 1 1 (fun i => dt_sm (fun j => dt_x C q v j * C j i) q) (fun i => dt_e C q v i) (k := q + 1) (C := C) (j := r) (by omega)
  have a3 : (fun i => dt q C * v i + 0 * v i) = fun i => 1 * (fun i => dt_sm (fun j => dt_x C q v j * C j i) q) i + 1 * (fun i => dt_e C q v i) i := by
    funext i
    show _ = 1 * dt_sm (fun j => dt_x C q v j * C j i) q + 1 * dt_e C q v i
    unfold dt_e
    rw [dt_sm_c (f := fun j => dt_x C q v j * C j i) (g := fun j => C j i * dt_x C q v j) (fun j _ => Int.mul_comm _ _)]
    omega
  rw [a3, a2, dt_comb (by omega) _ q (by omega), if_pos hr] at a1
  have a4 : dt (q + 1) (dt_rp C r (fun i => dt_e C q v i)) = -(dt_x C q (C q) r * dt_e C q v q) := by
    rw [dt_s, dt_sm_1 (j := r) (by omega) (fun i hi hne => ?_)]
    · rw [dt_dr_rp]
      have b1 := dt_drl (q := q) (j := r) (C := C) (v := C q) hr
      rw [dt_rp_self] at b1
      rw [b1]
      unfold dt_rp
      rw [if_pos rfl]
      have := dt_sg_1 hr
      grind
    · have b2 : dt q (dt_dr (dt_rp C r fun i => dt_e C q v i) i) = 0 := by
        by_cases c : i < r
        · rw [dt_dr_lo C _ c]
          exact dt_0col (j := r - 1) (by omega) (fun i' hi' => by unfold dt_rp; rw [if_pos rfl]; exact h0 i' hi')
        · rw [dt_dr_hi C _ (by omega)]
          exact dt_0col (j := r) (by omega) (fun i' hi' => by unfold dt_rp; rw [if_pos rfl]; exact h0 i' hi')
      rw [b2]
      omega
  rw [a4] at a1
  unfold dt_x at a1 ⊢
  grind
theorem dt_step2 {C : Nat → Nat → Int} {q : Nat} {v : Nat → Int} (i : Nat) (h0 : ∀ i, i < q → dt_e C q v i = 0) : dt q C * dt_e C (q + 1) v i = dt (q + 1) C * dt_e C q v i - dt_e C q (C q) i * dt_e C q v q := by
  have a1 : dt_e C (q + 1) v i = dt (q + 1) C * v i - (dt_sm (fun j => C j i * dt_x C (q + 1) v j) q + C q i * dt_e C q v q) := by
    rw [← dt_last]
    rfl
  have a2 : dt q C * dt_sm (fun j => C j i * dt_x C (q + 1) v j) q = dt (q + 1) C * dt_sm (fun j => C j i * dt_x C q v j) q + -dt_e C q v q * dt_sm (fun j => C j i * dt_x C q (C q) j) q := by
    rw [← dt_sm_mul, ← dt_sm_lin]
    refine dt_sm_c (fun j hj => ?_)
    have := dt_step1 (v := v) hj h0
    grind
  have a3 : dt_e C q v i = dt q C * v i - dt_sm (fun j => C j i * dt_x C q v j) q := rfl
  have a4 : dt_e C q (C q) i = dt q C * C q i - dt_sm (fun j => C j i * dt_x C q (C q) j) q := rfl
  rw [a1]
  grind
/-- where no determinant before is 0, nothing is left in the rows before -/
theorem dt_zero {C : Nat → Nat → Int} : ∀ {q : Nat}, (∀ p, p < q → dt p C ≠ 0) → ∀ (v : Nat → Int) (i : Nat), i < q → dt_e C q v i = 0
  | 0, _, _, _, h => absurd h (by omega)
  | q + 1, hp, v, i, hi => by
    have h0 := dt_zero (C := C) (q := q) (fun p h => hp p (by omega))
    have h1 := dt_step2 (C := C) (q := q) (v := v) i (h0 v)
    have h2 : dt (q + 1) C * dt_e C q v i - dt_e C q (C q) i * dt_e C q v q = 0 := by
      by_cases e : i < q
      · rw [h0 v i e, h0 (C q) i e]
        grind
      · rw [show i = q by omega, dt_pv]
        grind
    rw [h2] at h1
    exact (Int.mul_eq_zero.mp h1).resolve_left (hp q (by omega))
/-- sizes -/
def dt_nsm (f : Nat → Nat) : Nat → Nat
  | 0 => 0
  | n + 1 => dt_nsm f n + f n
def dt_pm : Nat → (Nat → Nat → Nat) → Nat
  | 0, _ => 1
  | k + 1, B => dt_nsm (fun j => B j k * dt_pm k (fun i => if i < j then B i else B (i + 1))) (k + 1)
theorem dt_sgn (a : Nat) : (dt_sg a).natAbs = 1 := by
  rw [dt_sg_par]
  by_cases h : a % 2 = 0
  · rw [if_pos h]; rfl
  · rw [if_neg h]; rfl
theorem dt_nsm_le {f : Nat → Int} {g : Nat → Nat} : ∀ {n : Nat}, (∀ i, i < n → (f i).natAbs ≤ g i) → (dt_sm f n).natAbs ≤ dt_nsm g n
  | 0, _ => Nat.le_refl _
  | n + 1, h => by
    show (dt_sm f n + f n).natAbs ≤ dt_nsm g n + g n
    have h1 := dt_nsm_le (n := n) (fun i hi => h i (by omega))
    have h2 := h n (by omega)
    have h3 := Int.natAbs_add_le (dt_sm f n) (f n)
    omega
theorem dt_bd : ∀ {k : Nat} {C : Nat → Nat → Int} {B : Nat → Nat → Nat}, (∀ j r, j < k → r < k → (C j r).natAbs ≤ B j r) → (dt k C).natAbs ≤ dt_pm k B
  | 0, _, _, _ => Nat.le_refl _
  | k + 1, C, B, h => by
    rw [dt_s]
    refine dt_nsm_le (fun j hj => ?_)
    rw [Int.natAbs_mul, Int.natAbs_mul, dt_sgn, Nat.one_mul]
    refine Nat.mul_le_mul (h j k hj (by omega)) (dt_bd (fun i r hi hr => ?_))
    unfold dt_dr
    by_cases e : i < j
    · rw [if_pos e, if_pos e]
      exact h i r (by omega) (by omega)
    · rw [if_neg e, if_neg e]
      exact h (i + 1) r (by omega) (by omega)
/-- what is left, as a determinant with row r as its last -/
theorem dt_e_dt (C : Nat → Nat → Int) (q : Nat) (v : Nat → Int) (r : Nat) : dt_e C q v r = dt (q + 1) (fun j i => if i = q then (if j = q then v r else C j r) else if j = q then v i else C j i) := by
  have e := dt_last (fun j i => if i = q then C j r else C j i) q (fun i => if i = q then v r else v i)
  have e1 : dt_e (fun j i => if i = q then C j r else C j i) q (fun i => if i = q then v r else v i) q = dt_e C q v r := by
    unfold dt_e
    have b1 : dt q (fun j i => if i = q then C j r else C j i) = dt q C := dt_c (fun j i hj hi => by rw [if_neg (by omega)])
    have b2 : (fun i => if i = q then v r else v i) q = v r := if_pos rfl
    rw [b1, b2]
    congr 1
    refine dt_sm_c (fun j hj => ?_)
    show (if q = q then C j r else C j q) * dt_x _ q _ j = C j r * dt_x C q v j
    rw [if_pos rfl]
    congr 1
    refine dt_c (fun a i ha hi => ?_)
    unfold dt_rp
    by_cases c : a = j
    · rw [if_pos c, if_pos c, if_neg (by omega)]
    · rw [if_neg c, if_neg c]
      exact if_neg (by omega)
  rw [← e1, ← e]
  refine dt_c (fun j i hj hi => ?_)
  unfold dt_rp
  by_cases a : j = q
  · rw [if_pos a, if_pos a, if_pos a]
  · rw [if_neg a, if_neg a, if_neg a]
/-! the reference's determinant: sets of columns -/
def dp_sum (cell : Nat → Nat → Int64) (pt : Nat → Int64) (S r : Nat) : Nat → Int64
  | 0 => 0
  | c + 1 => if nI S >>> (nI c &&& 31) &&& nI 1 = 0 then dp_sum cell pt S r c else dp_sum cell pt S r c + (if (r + (sp_mb (nI S) c).length) % 2 = 0 then cell r c * pt (S - 2 ^ c) else -(cell r c * pt (S - 2 ^ c)))
def dp_ok (cell : Nat → Nat → Int64) (pt : Nat → Int64) (w : Nat) : Prop := pt 0 = 1 ∧ ∀ S, 0 < S → S < 2 ^ w → pt S = dp_sum cell pt S ((sp_mb (nI S) w).length - 1) w
def dp_pt (col : Nat → Nat → Int) (w S : Nat) : Int64 := Int64.ofInt (dt (sp_mb (nI S) w).length (fun j => col ((sp_mb (nI S) w).getD j 0)))
theorem dp_f1 : ∀ S, S < 64 → ∀ c, c < 6 → ¬ nI S >>> (nI c &&& 31) &&& nI 1 = 0 → (sp_mb (nI S) 6).getD (sp_mb (nI S) c).length 0 = c ∧ sp_mb (nI (S - 2 ^ c)) 6 = (sp_mb (nI S) 6).eraseIdx (sp_mb (nI S) c).length ∧ 2 ^ c ≤ S ∧ (sp_mb (nI S) c).length < (sp_mb (nI S) 6).length := by decide +kernel
theorem dp_f2 : ∀ S, S < 64 → 0 < S → 0 < (sp_mb (nI S) 6).length := by decide +kernel
theorem dp_f3 : ∀ w, w < 7 → sp_mb (nI (2 ^ w - 1)) w = List.range w := by decide +kernel
theorem dp_f4 : ∀ w, w < 7 → sp_mb (nI 0) w = [] := by decide +kernel
theorem dp_f5 : ∀ S, S < 64 → (sp_mb (nI S) 6).length ≤ 6 ∧ ∀ j, j < (sp_mb (nI S) 6).length → (sp_mb (nI S) 6).getD j 0 < 6 := by decide +kernel
theorem dp_full {col : Nat → Nat → Int} {w : Nat} (hw : w < 7) : dp_pt col w (2 ^ w - 1) = Int64.ofInt (dt w col) := by
  unfold dp_pt
  rw [dp_f3 w hw, List.length_range]
  congr 1
  refine dt_c (fun j r hj _ => ?_)
  rw [List.getD_eq_getElem?_getD, List.getElem?_range hj]
  rfl
theorem dp_len {w : Nat} (hw : w ≤ 6) {S : Nat} (hS : S < 2 ^ w) : (sp_mb (nI S) w).length ≤ w := by
  have : ∀ x : Int32, ∀ l, (sp_mb x l).length ≤ l := by
    intro x l
    induction l with
    | zero => exact Nat.le_refl _
    | succ l ih =>
      unfold sp_mb
      split
      · omega
      · rw [List.length_append]
        simp only [List.length_cons, List.length_nil]
        omega
  exact this _ _
theorem dp_dt {col : Nat → Nat → Int} {cell : Nat → Nat → Int64} {w : Nat} (hw : w ≤ 6) (hc : ∀ r c, r < w → c < w → cell r c = Int64.ofInt (col c r)) : dp_ok cell (dp_pt col w) w := by
  refine ⟨?_, fun S h0 hS => ?_⟩
  · unfold dp_pt
    rw [dp_f4 w (by omega)]
    rfl
  · have h64 : 2 ^ w ≤ 2 ^ 6 := Nat.pow_le_pow_right (by decide) hw
    have e6 := sp_mb_m w (by omega) S hS
    have hl := dp_f2 S (by omega) h0
    have hlw := dp_len hw hS
    have key : ∀ c, c ≤ w → dp_sum cell (dp_pt col w) S ((sp_mb (nI S) w).length - 1) c = Int64.ofInt (dt_sm (fun j => dt_sg ((sp_mb (nI S) w).length - 1 + j) * col ((sp_mb (nI S) w).getD j 0) ((sp_mb (nI S) w).length - 1) * dt ((sp_mb (nI S) w).length - 1) (dt_dr (fun j => col ((sp_mb (nI S) w).getD j 0)) j)) (sp_mb (nI S) c).length) := by
      intro c
      induction c with
      | zero => intro _; rfl
      | succ c ih =>
        intro hcw
        unfold dp_sum
        rw [ih (by omega)]
        by_cases hb : nI S >>> (nI c &&& 31) &&& nI 1 = 0
        · rw [if_pos hb, sp_mb_f hb]
        · rw [if_neg hb, sp_mb_t hb]
          obtain ⟨f1, f2, f3, f4⟩ := dp_f1 S (by omega) c (by omega) hb
          have e7 := sp_mb_m w (by omega) (S - 2 ^ c) (Nat.lt_of_le_of_lt (Nat.sub_le _ _) hS)
          rw [← e6] at f1 f2 f4 hl
          rw [← e7] at f2
          rw [List.length_append]
          show _ = Int64.ofInt (dt_sm _ (sp_mb (nI S) c).length + _)
          rw [Int64.ofInt_add]
          congr 1
          show _ = Int64.ofInt (dt_sg ((sp_mb (nI S) w).length - 1 + (sp_mb (nI S) c).length) * col ((sp_mb (nI S) w).getD (sp_mb (nI S) c).length 0) ((sp_mb (nI S) w).length - 1) * dt ((sp_mb (nI S) w).length - 1) (dt_dr (fun j => col ((sp_mb (nI S) w).getD j 0)) (sp_mb (nI S) c).length))
          rw [f1, hc _ c (by omega) (by omega)]
          have e8 : dp_pt col w (S - 2 ^ c) = Int64.ofInt (dt ((sp_mb (nI S) w).length - 1) (dt_dr (fun j => col ((sp_mb (nI S) w).getD j 0)) (sp_mb (nI S) c).length)) := by
            unfold dp_pt
            rw [f2, List.length_eraseIdx_of_lt f4]
            congr 1
            refine dt_c (fun j r hj _ => ?_)
            unfold dt_dr
            rw [List.getD_eq_getElem?_getD, List.getElem?_eraseIdx]
            by_cases e9 : j < (sp_mb (nI S) c).length
            · rw [if_pos e9, if_pos e9, ← List.getD_eq_getElem?_getD]
            · rw [if_neg e9, if_neg e9, ← List.getD_eq_getElem?_getD]
          rw [e8, dt_sg_par]
          by_cases hp : ((sp_mb (nI S) w).length - 1 + (sp_mb (nI S) c).length) % 2 = 0
          · rw [if_pos hp, if_pos hp, ← Int64.ofInt_mul, Int.one_mul]
          · rw [if_neg hp, if_neg hp, ← Int64.ofInt_mul, ← Int64.ofInt_neg]
            congr 1
            grind
    rw [key w (Nat.le_refl _)]
    unfold dp_pt
    congr 1
    have e9 : (sp_mb (nI S) w).length = (sp_mb (nI S) w).length - 1 + 1 := by rw [e6]; omega
    generalize hL : (sp_mb (nI S) w).length - 1 = L at *
    rw [e9, dt_s]

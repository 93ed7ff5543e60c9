/-! BOUNDS of the determinants -/
def dt_ps : Nat → (Nat → Nat → Nat) → Nat
  | 0, _ => 1
  | k + 1, B => dt_nsm (fun j => if B j k = 0 then 0 else B j k * dt_ps k (fun i => if i < j then B i else B (i + 1))) (k + 1)
theorem dt_nsm_c {f g : Nat → Nat} : ∀ {n : Nat}, (∀ i, i < n → f i = g i) → dt_nsm f n = dt_nsm g n
  | 0, _ => rfl
  | n + 1, h => by
    show dt_nsm f n + f n = dt_nsm g n + g n
    rw [dt_nsm_c (fun i hi => h i (by omega)), h n (by omega)]
theorem dt_pm_ps : ∀ (k : Nat) (B : Nat → Nat → Nat), dt_pm k B = dt_ps k B
  | 0, _ => rfl
  | k + 1, B => by
    refine dt_nsm_c (fun j _ => ?_)
    rw [dt_pm_ps k]
    by_cases e : B j k = 0
    · rw [if_pos e, e, Nat.zero_mul]
    · rw [if_neg e]
theorem dt_bs {k : Nat} {C : Nat → Nat → Int} {B : Nat → Nat → Nat} (h : ∀ j r, j < k → r < k → (C j r).natAbs ≤ B j r) : (dt k C).natAbs ≤ dt_ps k B := by
  rw [← dt_pm_ps]
  exact dt_bd h
/-- how large the numbers of a bowl of n variables and its lines are; column 2 * n: a right side -/
def bz (n k r : Nat) : Nat := if k < n then (if r < n then (if r = k then 20 else 9) else 18) else if k < 2 * n then (if r < n then 18 else 0) else 100
def bz_v (n q k r : Nat) : Nat := if r < q then dt_ps q (fun j i => if j = r then bz n k i else bz n j i) else dt_ps (q + 1) (fun j i => if i = q then (if j = q then bz n k r else bz n j r) else if j = q then bz n k i else bz n j i)
theorem bz_1 : ∀ q, q < 2 → ∀ r, r < 2 → ∀ k, k < 3 → dt_ps q (bz 1) * bz_v 1 (q + 1) k r < 2 ^ 63 ∧ dt_ps q (bz 1) < 2 ^ 63 := by decide +kernel
theorem bz_2 : ∀ q, q < 4 → ∀ r, r < 4 → ∀ k, k < 5 → dt_ps q (bz 2) * bz_v 2 (q + 1) k r < 2 ^ 63 ∧ dt_ps q (bz 2) < 2 ^ 63 := by decide +kernel
theorem bz_3a : ∀ q, q < 4 → ∀ r, r < 6 → ∀ k, k < 7 → dt_ps q (bz 3) * bz_v 3 (q + 1) k r < 2 ^ 63 ∧ dt_ps q (bz 3) < 2 ^ 63 := by decide +kernel

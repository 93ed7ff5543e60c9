/-! BOUNDS of the determinants -/
def dt_ps : Nat → (Nat → Nat → Nat) → Nat
  | 0, _ => 1
  | k + 1, B => dt_nsm (fun j => if B j k = 0 then 0 else B j k * dt_ps k (fun i => if i < j then B i else B (i + 1))) (k + 1)
theorem dt_nsm_c {f g : Nat → Nat} : ∀ {n : Nat}, (∀ i, i < n → f i = g i) → dt_nsm f n = dt_nsm g n
  | 0, _ => rfl
  | n + 1, h => by
    show dt_nsm f n + f n = dt_nsm g n + g n
    rw [dt_nsm_c (fun i hi => h i (by omega)), h n (by omega)]
theorem dt_pm_ps : ∀ (k : Nat) (B : Nat → Nat → Nat), dt_pm k B = dt_ps k B
  | 0, _ => rfl
  | k + 1, B => by
    refine dt_nsm_c (fun j _ => ?_)
    rw [dt_pm_ps k]
    by_cases e : B j k = 0
    · rw [if_pos e, e, Nat.zero_mul]
    · rw [if_neg e]
theorem dt_bs {k : Nat} {C : Nat → Nat → Int} {B : Nat → Nat → Nat} (h : ∀ j r, j < k → r < k → (C j r).natAbs ≤ B j r) : (dt k C).natAbs ≤ dt_ps k B := by
  rw [← dt_pm_ps]
  exact dt_bd h
/-- how large the numbers of a bowl of n variables and its lines are; column 2 * n: a right side -/
def bz (n k r : Nat) : Nat := if k < n then (if r < n then (if r = k then 20 else 9) else 18) else if k < 2 * n then (if r < n then 18 else 0) else 100
def bz_v (n q k r : Nat) : Nat := if r < q then dt_ps q (fun j i => if j = r then bz n k i else bz n j i) else dt_ps (q + 1) (fun j i => if i = q then (if j = q then bz n k r else bz n j r) else if j = q then bz n k i else bz n j i)
theorem bz_1 : ∀ q, q < 2 → ∀ r, r < 2 → ∀ k, k < 3 → dt_ps q (bz 1) * bz_v 1 (q + 1) k r < 2 ^ 63 ∧ dt_ps q (bz 1) < 2 ^ 63 := by decide +kernel
theorem bz_2 : ∀ q, q < 4 → ∀ r, r < 4 → ∀ k, k < 5 → dt_ps q (bz 2) * bz_v 2 (q + 1) k r < 2 ^ 63 ∧ dt_ps q (bz 2) < 2 ^ 63 := by decide +kernel
theorem bz_3a : ∀ q, q < 4 → ∀ r, r < 6 → ∀ k, k < 7 → dt_ps q (bz 3) * bz_v 3 (q + 1) k r < 2 ^ 63 ∧ dt_ps q (bz 3) < 2 ^ 63 := by decide +kernel
theorem bz_3b : ∀ r, r < 6 → ∀ k, k < 7 → dt_ps 4 (bz 3) * bz_v 3 5 k r < 2 ^ 63 ∧ dt_ps 4 (bz 3) < 2 ^ 63 := by decide +kernel
theorem bz_3c : ∀ r, r < 6 → ∀ k, k < 7 → dt_ps 5 (bz 3) * bz_v 3 6 k r < 2 ^ 63 ∧ dt_ps 5 (bz 3) < 2 ^ 63 := by decide +kernel
theorem bz_all : ∀ n, 1 ≤ n → n ≤ 3 → ∀ q, q < 2 * n → ∀ r, r < 2 * n → ∀ k, k < 2 * n + 1 → dt_ps q (bz n) * bz_v n (q + 1) k r < 2 ^ 63 ∧ dt_ps q (bz n) < 2 ^ 63 := by
  intro n h1 h2 q hq r hr k hk
  rcases (by omega : n = 1 ∨ n = 2 ∨ n = 3) with rfl | rfl | rfl
  · exact bz_1 q hq r hr k hk
  · exact bz_2 q hq r hr k hk
  · rcases (by omega : q < 4 ∨ q = 4 ∨ q = 5) with h | rfl | rfl
    · exact bz_3a q h r hr k hk
    · exact bz_3b r hr k hk
    · exact bz_3c r hr k hk
theorem bz_D : ∀ n, 1 ≤ n → n ≤ 3 → dt_ps (2 * n) (bz n) < 2 ^ 31 := by
  intro n h1 h2
  rcases (by omega : n = 1 ∨ n = 2 ∨ n = 3) with rfl | rfl | rfl <;> decide +kernel
theorem bz_hB {n w : Nat} {C : Nat → Nat → Int} (h1 : 1 ≤ n) (h2 : n ≤ 3) (hw2 : w ≤ 2 * n) (hC : ∀ j r, j < w + 2 → r < w → (C j r).natAbs ≤ bz n (if j < w then j else 2 * n) r) : ∀ q, q < w → (dt q C).natAbs < 2 ^ 63 ∧ ∀ r k, r < w → k < w + 2 → (dt q C).natAbs * (br_v C (q + 1) k r).natAbs < 2 ^ 63 := by
  intro q hq
  have hlo : ∀ j r, j < w → r < w → (C j r).natAbs ≤ bz n j r := by
    intro j r hj hr
    have h3 := hC j r (by omega) hr
    rwa [if_pos hj] at h3
  have hD : (dt q C).natAbs ≤ dt_ps q (bz n) := dt_bs (fun j r hj hr => hlo j r (by omega) (by omega))
  refine ⟨Nat.lt_of_le_of_lt hD (bz_all n h1 h2 q (by omega) 0 (by omega) 0 (by omega)).2, fun r k hr hk => ?_⟩
  have hk2 : (if k < w then k else 2 * n) < 2 * n + 1 := by split <;> omega
  have h5 := (bz_all n h1 h2 q (by omega) r (by omega) _ hk2).1
  refine Nat.lt_of_le_of_lt (Nat.mul_le_mul hD ?_) h5
  generalize hkk : (if k < w then k else 2 * n) = k'
  have hv : ∀ r, r < w → (C k r).natAbs ≤ bz n k' r := fun r hr => by rw [← hkk]; exact hC k r hk hr
  unfold br_v bz_v
  by_cases e : r < q + 1
  · rw [if_pos e, if_pos e]
    refine dt_bs (fun j i hj hi => ?_)
    unfold dt_rp
    by_cases e2 : j = r
    · rw [if_pos e2, if_pos e2]
      exact hv i (by omega)
    · rw [if_neg e2, if_neg e2]
      exact hlo j i (by omega) (by omega)
  · rw [if_neg e, if_neg e, dt_e_dt]
    refine dt_bs (fun j i hj hi => ?_)
    by_cases e2 : i = q + 1
    · rw [if_pos e2, if_pos e2]
      by_cases e3 : j = q + 1
      · rw [if_pos e3, if_pos e3]; exact hv r hr
      · rw [if_neg e3, if_neg e3]; exact hlo j r (by omega) hr
    · rw [if_neg e2, if_neg e2]
      by_cases e3 : j = q + 1
      · rw [if_pos e3, if_pos e3]; exact hv i (by omega)
      · rw [if_neg e3, if_neg e3]; exact hlo j i (by omega) (by omega)

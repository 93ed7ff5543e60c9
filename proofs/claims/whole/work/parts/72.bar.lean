/-! ELIMINATION WITHOUT FRACTIONS: the class's rows are determinants -/
theorem ofI0 {a : Int} (h : a.natAbs < 2 ^ 63) : Int64.ofInt a = 0 ↔ a = 0 := by
  constructor
  · intro e
    have h1 := congrArg Int64.toInt e
    rw [Int64.toInt_ofInt_of_le (by omega) (by omega)] at h1
    exact h1
  · intro e
    rw [e]
    rfl
theorem ofI_t {a : Int} (h : a.natAbs < 2 ^ 63) : (Int64.ofInt a).toInt = a := Int64.toInt_ofInt_of_le (by omega) (by omega)
theorem bar_div {a b : Int} (hb : b ≠ 0) (hp : b.natAbs * a.natAbs < 2 ^ 63) (hb2 : b.natAbs < 2 ^ 63) : Int64.ofInt (b * a) / Int64.ofInt b = Int64.ofInt a := by
  have h1 : (b * a).natAbs < 2 ^ 63 := by rw [Int.natAbs_mul]; exact hp
  have m1 : Int64.minValue.toInt = -2 ^ 63 := rfl
  have m2 : Int64.maxValue.toInt = 2 ^ 63 - 1 := rfl
  have h2 := Int64.ofInt_tdiv (a := b * a) (b := b) (by omega) (by omega) (by omega) (by omega)
  rw [← h2, Int.mul_tdiv_cancel_left _ hb]
def br_v (C : Nat → Nat → Int) (q k r : Nat) : Int := if r < q then dt_x C q (C k) r else dt_e C q (C k) r
theorem br_step {C : Nat → Nat → Int} {q k r : Nat} (hp : ∀ p, p < q → dt p C ≠ 0) (hr : r ≠ q) : dt (q + 1) C * br_v C q k r - br_v C q q r * dt_e C q (C k) q = dt q C * br_v C (q + 1) k r := by
  unfold br_v
  have h0 := dt_zero (C := C) (q := q) hp (C k)
  by_cases e : r < q
  · rw [if_pos e, if_pos e, if_pos (by omega)]
    have h1 := dt_step1 (C := C) (q := q) (v := C k) e h0
    omega
  · rw [if_neg e, if_neg e, if_neg (by omega)]
    have h1 := dt_step2 (C := C) (q := q) (v := C k) r h0
    omega
theorem br_S {C : Nat → Nat → Int} {M : Nat → Nat → Int64} {w : Nat} (hM : ∀ r k, r < w → k < w + 2 → M r k = Int64.ofInt (C k r)) (hB : ∀ q, q < w → (dt q C).natAbs < 2 ^ 63 ∧ ∀ r k, r < w → k < w + 2 → (dt q C).natAbs * (br_v C (q + 1) k r).natAbs < 2 ^ 63) : ∀ q, q ≤ w → (∀ p, p < q → dt p C ≠ 0) → (∀ r k, r < w → q ≤ k → k < w + 2 → (ce_S M q).1 r k = Int64.ofInt (br_v C q k r)) ∧ (ce_S M q).2 = Int64.ofInt (dt q C)
  | 0, _, _ => by
    refine ⟨fun r k hr _ hk => ?_, rfl⟩
    show M r k = _
    rw [hM r k hr hk]
    congr 1
    unfold br_v dt_e
    rw [if_neg (by omega)]
    show _ = 1 * C k r - 0
    omega
  | q + 1, hq, hp => by
    obtain ⟨h1, h2⟩ := br_S hM hB q (by omega) (fun p h => hp p (by omega))
    obtain ⟨b1, b2⟩ := hB q (by omega)
    have hpv : (ce_S M q).1 q q = Int64.ofInt (dt (q + 1) C) := by
      rw [h1 q q (by omega) (Nat.le_refl _) (by omega), dt_pv]
      unfold br_v
      rw [if_neg (Nat.lt_irrefl _)]
    refine ⟨fun r k hr hk hk2 => ?_, hpv⟩
    show ce_clear (ce_S M q).1 q (ce_S M q).2 r k = _
    unfold ce_clear
    by_cases e : r = q
    · rw [if_neg (fun w => w.1 e), h1 r k hr (by omega) hk2]
      congr 1
      unfold br_v
      rw [if_neg (by omega), if_pos (by omega), e]
      exact (dt_last C q (C k)).symm
    · rw [if_pos ⟨e, by omega⟩, hpv, h2, h1 r k hr (by omega) hk2, h1 r q hr (Nat.le_refl _) (by omega), h1 q k (by omega) (by omega) hk2, ← Int64.ofInt_mul, ← Int64.ofInt_mul, ← Int64.ofInt_sub]
      have h3 := br_step (C := C) (q := q) (k := k) (r := r) (fun p h => hp p (by omega)) e
      have h4 : br_v C q k q = dt_e C q (C k) q := by
        unfold br_v
        rw [if_neg (Nat.lt_irrefl _)]
      rw [h4, h3]
      exact bar_div (hp q (by omega)) (b2 r k hr hk2) b1
theorem br_ok {C : Nat → Nat → Int} {M : Nat → Nat → Int64} {w : Nat} (hM : ∀ r k, r < w → k < w + 2 → M r k = Int64.ofInt (C k r)) (hB : ∀ q, q < w → (dt q C).natAbs < 2 ^ 63 ∧ ∀ r k, r < w → k < w + 2 → (dt q C).natAbs * (br_v C (q + 1) k r).natAbs < 2 ^ 63) (hD : ∀ q, q ≤ w → (dt q C).natAbs < 2 ^ 63) : ∀ (z k : Nat), z + k = w → (∀ p, p ≤ k → dt p C ≠ 0) → (ce_ok M k z = nI 1 ↔ ∀ p, p ≤ w → dt p C ≠ 0)
  | 0, k, hz, hp => by
    constructor
    · intro _ p hpw
      exact hp p (by omega)
    · intro _
      rfl
  | z + 1, k, hz, hp => by
    obtain ⟨h1, -⟩ := br_S hM hB k (by omega) (fun p h => hp p (by omega))
    have hpv : (ce_S M k).1 k k = Int64.ofInt (dt (k + 1) C) := by
      rw [h1 k k (by omega) (Nat.le_refl _) (by omega), dt_pv]
      unfold br_v
      rw [if_neg (Nat.lt_irrefl _)]
    unfold ce_ok
    by_cases e : (ce_S M k).1 k k = 0
    · rw [if_pos e]
      have e2 : dt (k + 1) C = 0 := (ofI0 (hD (k + 1) (by omega))).mp (by rw [← hpv]; exact e)
      constructor
      · intro h
        exact absurd h (by decide)
      · intro h
        exact absurd e2 (h (k + 1) (by omega))
    · rw [if_neg e]
      have e2 : dt (k + 1) C ≠ 0 := fun q => e (by rw [hpv, q]; rfl)
      exact br_ok hM hB hD z (k + 1) (by omega) (fun p h => by
        by_cases e3 : p = k + 1
        · rw [e3]; exact e2
        · exact hp p (by omega))
/-- at the end -/
theorem br_end {C : Nat → Nat → Int} {M : Nat → Nat → Int64} {w : Nat} (hM : ∀ r k, r < w → k < w + 2 → M r k = Int64.ofInt (C k r)) (hB : ∀ q, q < w → (dt q C).natAbs < 2 ^ 63 ∧ ∀ r k, r < w → k < w + 2 → (dt q C).natAbs * (br_v C (q + 1) k r).natAbs < 2 ^ 63) (hp : ∀ p, p ≤ w → dt p C ≠ 0) : (ce_S M w).2 = Int64.ofInt (dt w C) ∧ ∀ r, r < w → (ce_S M w).1 r w = Int64.ofInt (dt w (dt_rp C r (C w))) ∧ (ce_S M w).1 r (w + 1) = Int64.ofInt (dt w (dt_rp C r (C (w + 1)))) := by
  obtain ⟨h1, h2⟩ := br_S hM hB w (Nat.le_refl _) (fun p h => hp p (by omega))
  refine ⟨h2, fun r hr => ⟨?_, ?_⟩⟩
  · rw [h1 r w hr (Nat.le_refl _) (by omega)]
    unfold br_v
    rw [if_pos hr]
    rfl
  · rw [h1 r (w + 1) hr (by omega) (by omega)]
    unfold br_v
    rw [if_pos hr]
    rfl

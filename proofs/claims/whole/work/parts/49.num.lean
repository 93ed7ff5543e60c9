/-! NUMBERS: floor division, Euclid's way, how many steps it takes -/
theorem neg64 (z : Int64) : z < 0 ↔ z.toBitVec.msb = true := by
  rw [Int64.lt_iff_toInt_lt, BitVec.msb_eq_toInt, decide_eq_true_eq]
  rfl
theorem xor_neg (x y : Int64) (hy : 0 < y) : x ^^^ y < 0 ↔ x < 0 := by
  have h1 : ¬ y < 0 := by
    rw [Int64.lt_iff_toInt_lt] at hy ⊢
    omega
  rw [neg64] at h1
  rw [neg64, neg64, Int64.toBitVec_xor, BitVec.msb_xor, Bool.eq_false_iff.mpr h1]
  simp
theorem pos64 {y : Int64} (hy : 0 < y) : 0 < y.toInt := by
  rw [Int64.lt_iff_toInt_lt] at hy
  exact hy
theorem pos64ne {y : Int64} (hy : 0 < y) : ¬ y = 0 := fun h => by
  rw [h] at hy
  exact absurd hy (by decide)
theorem fmod64 (x y : Int64) (hy : 0 < y) : (x - sp_fdiv x y * y).toInt = x.toInt % y.toInt := by
  have hp := pos64 hy
  obtain ⟨h1, h2⟩ := rem64N x y (pos64ne hy)
  have hlt := Int.tmod_lt_of_pos x.toInt hp
  have hgt := Int.lt_tmod_of_pos x.toInt hp
  have hyb := Int64.toInt_lt y
  have hdef := Int.mul_tdiv_add_tmod x.toInt y.toInt
  unfold sp_fdiv
  by_cases e : x < 0
  · rw [if_pos ((xor_neg x y hy).mpr e)]
    have hxn : x.toInt < 0 := by
      rw [Int64.lt_iff_toInt_lt] at e
      exact e
    by_cases e2 : x / y * y = x
    · rw [if_pos e2, h1]
      have h3 : x - x / y * y = 0 := by rw [e2, Int64.sub_self]
      rw [h3] at h1
      have h4 : x.toInt.tmod y.toInt = 0 := h1.symm
      rw [h4]
      rw [h4, Int.add_zero] at hdef
      rw [← hdef, Int.mul_emod_right]
    · rw [if_neg e2]
      have h3 : x - (x / y - 1) * y = (x - x / y * y) + y := by grind
      have h4 : ¬ x.toInt.tmod y.toInt = 0 := fun q => e2 (by
        rw [q] at h1
        have h5 : x - x / y * y = 0 := Int64.toInt_inj.mp h1
        have h6 : x / y * y = x - (x - x / y * y) := by grind
        rw [h6, h5, Int64.sub_zero])
      have h5 : x.toInt.tmod y.toInt ≤ 0 := by
        have q := Int.tmod_nonneg y.toInt (a := -x.toInt) (by omega)
        rw [Int.neg_tmod] at q
        omega
      rw [h3, Int64.toInt_add, h1, Int.bmod_eq_of_le (by omega) (by omega)]
      have h6 : x.toInt = x.toInt.tmod y.toInt + y.toInt + y.toInt * (x.toInt.tdiv y.toInt - 1) := by grind
      rw [h6.trans rfl, Int.add_mul_emod_self_left, Int.emod_eq_of_lt (a := x.toInt.tmod y.toInt + y.toInt) (by omega) (by omega)]
      rw [← h6]
  · rw [if_neg (mt (xor_neg x y hy).mp e), h1]
    have hxn : 0 ≤ x.toInt := by
      rw [Int64.lt_iff_toInt_lt] at e
      have : (0 : Int64).toInt = 0 := rfl
      omega
    exact Int.tmod_eq_emod_of_nonneg hxn
/-- 1, 1, 2, 3, 5 .. -/
def fb : Nat → Nat
  | 0 => 1
  | 1 => 1
  | k + 2 => fb (k + 1) + fb k
theorem fb_92 : fb 92 = 12200160415121876738 := by decide +kernel
theorem mod_sub {a b : Int} (hb : 0 < b) (h : b ≤ a) : a % b ≤ a - b := by
  have h1 := Int.mul_ediv_add_emod a b
  have h2 : 1 ≤ a / b := by
    rw [Int.le_ediv_iff_mul_le hb]
    omega
  have h3 := Int.mul_le_mul_of_nonneg_left h2 (by omega : 0 ≤ b)
  omega
theorem lesT_fb : ∀ (k : Nat) (p q r s : Int64), 0 < q → 0 < s → (q.toInt < fb k ∨ s.toInt < fb k) → sp_lesT k p q r s
  | 0, p, q, r, s, hq, hs, h => by
    have h1 := pos64 hq
    have h2 := pos64 hs
    have h3 : (fb 0 : Int) = 1 := rfl
    exact absurd h (by omega)
  | 1, p, q, r, s, hq, hs, h => by
    have h1 := pos64 hq
    have h2 := pos64 hs
    have h3 : (fb 1 : Int) = 1 := rfl
    exact absurd h (by omega)
  | k + 2, p, q, r, s, hq, hs, h => by
    have h1 := pos64 hq
    have h2 := pos64 hs
    have h3 : (fb (k + 2) : Int) = fb (k + 1) + fb k := by
      show ((fb (k + 1) + fb k : Nat) : Int) = _
      omega
    refine ⟨pos64ne hq, pos64ne hs, fun he g1 g2 => ?_⟩
    have e1 := fmod64 p q hq
    have e2 := fmod64 r s hs
    have b1 := Int.emod_lt_of_pos p.toInt h1
    have b2 := Int.emod_lt_of_pos r.toInt h2
    have c1 := Int.emod_nonneg p.toInt (by omega : q.toInt ≠ 0)
    have c2 := Int.emod_nonneg r.toInt (by omega : s.toInt ≠ 0)
    have z0 : (0 : Int64).toInt = 0 := rfl
    have d1 : 0 < p - sp_fdiv p q * q := by
      rw [Int64.lt_iff_toInt_lt, e1, z0]
      have : (p - sp_fdiv p q * q).toInt ≠ 0 := fun w => g1 (Int64.toInt_inj.mp w)
      omega
    have d2 : 0 < r - sp_fdiv r s * s := by
      rw [Int64.lt_iff_toInt_lt, e2, z0]
      have : (r - sp_fdiv r s * s).toInt ≠ 0 := fun w => g2 (Int64.toInt_inj.mp w)
      omega
    by_cases a1 : (r - sp_fdiv r s * s).toInt < fb (k + 1) ∨ (p - sp_fdiv p q * q).toInt < fb (k + 1)
    · exact lesT_fb (k + 1) _ _ _ _ d2 d1 a1
    · generalize hr1 : p - sp_fdiv p q * q = r1 at *
      generalize hr2 : r - sp_fdiv r s * s = r2 at *
      have f1 := pos64 d1
      have f2 := pos64 d2
      refine ⟨pos64ne d2, pos64ne d1, fun he' g1' g2' => ?_⟩
      have e3 := fmod64 s r2 d2
      have e4 := fmod64 q r1 d1
      have m1 := mod_sub f2 (by omega : r2.toInt ≤ s.toInt)
      have m2 := mod_sub f1 (by omega : r1.toInt ≤ q.toInt)
      have c3 := Int.emod_nonneg s.toInt (by omega : r2.toInt ≠ 0)
      have c4 := Int.emod_nonneg q.toInt (by omega : r1.toInt ≠ 0)
      refine lesT_fb k _ _ _ _ ?_ ?_ ?_
      · rw [Int64.lt_iff_toInt_lt, e4, z0]
        have : (q - sp_fdiv q r1 * r1).toInt ≠ 0 := fun w => g2' (Int64.toInt_inj.mp w)
        omega
      · rw [Int64.lt_iff_toInt_lt, e3, z0]
        have : (s - sp_fdiv s r2 * r2).toInt ≠ 0 := fun w => g1' (Int64.toInt_inj.mp w)
        omega
      · rw [e3, e4]
        omega
theorem lesT_92 {p q r s : Int64} (hq : 0 < q) (hs : 0 < s) : sp_lesT 92 p q r s := by
  refine lesT_fb 92 p q r s hq hs (Or.inl ?_)
  have := Int64.toInt_lt q
  rw [fb_92]
  omega
theorem lesT_mono : ∀ {z : Nat} {p q r s : Int64}, sp_lesT z p q r s → sp_lesT (z + 1) p q r s
  | 0, _, _, _, _, h => absurd h (fun q => q)
  | z + 1, p, q, r, s, h => ⟨h.1, h.2.1, fun he g1 g2 => lesT_mono (h.2.2 he g1 g2)⟩
theorem lesR_mono : ∀ {z : Nat} {p q r s : Int64}, sp_lesT z p q r s → sp_lesR (z + 1) p q r s = sp_lesR z p q r s
  | 0, _, _, _, _, h => absurd h (fun q => q)
  | z + 1, p, q, r, s, h => by
    conv => lhs; unfold sp_lesR
    conv => rhs; unfold sp_lesR
    by_cases e : sp_fdiv p q = sp_fdiv r s
    · rw [if_pos e, if_pos e]
      by_cases e1 : p - sp_fdiv p q * q = 0
      · rw [if_pos e1, if_pos e1]
      · rw [if_neg e1, if_neg e1]
        by_cases e2 : r - sp_fdiv r s * s = 0
        · rw [if_pos e2, if_pos e2]
        · rw [if_neg e2, if_neg e2]
          exact lesR_mono (h.2.2 e e1 e2)
    · rw [if_neg e, if_neg e]
theorem lesT_up {z : Nat} {p q r s : Int64} (h : sp_lesT z p q r s) : ∀ j, sp_lesT (z + j) p q r s
  | 0 => h
  | j + 1 => lesT_mono (lesT_up h j)
theorem lesR_up {z : Nat} {p q r s : Int64} (h : sp_lesT z p q r s) : ∀ j, sp_lesR (z + j) p q r s = sp_lesR z p q r s
  | 0 => rfl
  | j + 1 => (lesR_mono (lesT_up h j)).trans (lesR_up h j)
theorem lesT_140 {p q r s : Int64} (hq : 0 < q) (hs : 0 < s) : sp_lesT 140 p q r s := lesT_up (lesT_92 hq hs) 48
/-- the class's way and the reference's -/
theorem less_R : ∀ {z : Nat} {p q r s : Int64}, 0 < q → 0 < s → sp_lesT z p q r s → sp_less z p q r s = sp_lesR z p q r s
  | 0, _, _, _, _, _, _, h => absurd h (fun q => q)
  | z + 1, p, q, r, s, hq, hs, h => by
    unfold sp_less sp_lesR
    rw [if_pos hq, if_pos hs]
    by_cases e : sp_fdiv p q = sp_fdiv r s
    · rw [if_pos e, if_pos e]
      by_cases e1 : p - sp_fdiv p q * q = 0
      · rw [if_pos e1, if_pos e1]
      · rw [if_neg e1, if_neg e1]
        by_cases e2 : r - sp_fdiv r s * s = 0
        · rw [if_pos e2, if_pos e2]
        · rw [if_neg e2, if_neg e2]
          have z0 : (0 : Int64).toInt = 0 := rfl
          refine less_R ?_ ?_ (h.2.2 e e1 e2)
          · have c2 := Int.emod_nonneg r.toInt (by have := pos64 hs; omega : s.toInt ≠ 0)
            rw [← fmod64 r s hs] at c2
            rw [Int64.lt_iff_toInt_lt, z0]
            have : (r - sp_fdiv r s * s).toInt ≠ 0 := fun w => e2 (Int64.toInt_inj.mp w)
            omega
          · have c2 := Int.emod_nonneg p.toInt (by have := pos64 hq; omega : q.toInt ≠ 0)
            rw [← fmod64 p q hq] at c2
            rw [Int64.lt_iff_toInt_lt, z0]
            have : (p - sp_fdiv p q * q).toInt ≠ 0 := fun w => e1 (Int64.toInt_inj.mp w)
            omega
    · rw [if_neg e, if_neg e]
theorem less_eq {p q r s : Int64} (hq : 0 < q) (hs : 0 < s) : sp_less 100 p q r s = sp_lesR 140 p q r s := by
  rw [less_R hq hs (lesT_up (lesT_92 hq hs) 8)]
  exact (lesR_up (lesT_92 hq hs) 8).trans (lesR_up (lesT_92 hq hs) 48).symm
/-- Euclid -/
theorem gt_fb : ∀ (k : Nat) (x y : Int64), 0 ≤ x.toInt → 0 ≤ y.toInt → y.toInt < fb k → sp_gt k x y
  | 0, x, y, hx, hy, h => Int64.toInt_inj.mp (by
    have h3 : (fb 0 : Int) = 1 := rfl
    show y.toInt = 0
    omega)
  | 1, x, y, hx, hy, h => Or.inl (Int64.toInt_inj.mp (by
    have h3 : (fb 1 : Int) = 1 := rfl
    show y.toInt = 0
    omega))
  | k + 2, x, y, hx, hy, h => by
    by_cases e : y = 0
    · exact Or.inl e
    · have h3 : (fb (k + 2) : Int) = fb (k + 1) + fb k := by
        show ((fb (k + 1) + fb k : Nat) : Int) = _
        omega
      have hy0 : y.toInt ≠ 0 := fun w => e (Int64.toInt_inj.mp w)
      have r1 := (rem64N x y e).1
      rw [Int.tmod_eq_emod_of_nonneg hx] at r1
      have b1 := Int.emod_lt_of_pos x.toInt (by omega : 0 < y.toInt)
      have c1 := Int.emod_nonneg x.toInt hy0
      refine Or.inr ?_
      by_cases a : (x - x / y * y).toInt < fb (k + 1)
      · exact gt_fb (k + 1) _ _ hy (by omega) a
      · generalize hr : x - x / y * y = r at *
        by_cases e2 : r = 0
        · exact Or.inl e2
        · have r0 : r.toInt ≠ 0 := fun w => e2 (Int64.toInt_inj.mp w)
          have r2 := (rem64N y r e2).1
          rw [Int.tmod_eq_emod_of_nonneg hy] at r2
          have m1 := mod_sub (by omega : 0 < r.toInt) (by omega : r.toInt ≤ y.toInt)
          have c2 := Int.emod_nonneg y.toInt r0
          exact Or.inr (gt_fb k _ _ (by omega) (by omega) (by omega))
theorem gcd64 : ∀ {z : Nat} {x y : Int64}, sp_gt z x y → 0 ≤ x.toInt → 0 ≤ y.toInt → (sp_gcd z x y).toInt = Nat.gcd x.toInt.natAbs y.toInt.natAbs
  | 0, x, y, h, hx, hy => by
    have h' : y = 0 := h
    subst h'
    show x.toInt = (Nat.gcd x.toInt.natAbs 0 : Nat)
    rw [Nat.gcd_zero_right]
    omega
  | z + 1, x, y, h, hx, hy => by
    unfold sp_gcd
    by_cases e : y = 0
    · rw [if_pos e, e]
      show x.toInt = (Nat.gcd x.toInt.natAbs 0 : Nat)
      rw [Nat.gcd_zero_right]
      omega
    · rw [if_neg e]
      obtain ⟨r1, r2⟩ := rem64N x y e
      have hy0 : y.toInt ≠ 0 := fun w => e (Int64.toInt_inj.mp w)
      have c1 := Int.emod_nonneg x.toInt hy0
      rw [← Int.tmod_eq_emod_of_nonneg hx] at c1
      rw [gcd64 (h.resolve_left e) hy (by rw [r1]; exact c1), r1, r2, Nat.gcd_comm, ← Nat.gcd_rec, Nat.gcd_comm]
theorem gt_mono : ∀ {z : Nat} {x y : Int64}, sp_gt z x y → sp_gt (z + 1) x y
  | 0, x, y, h => Or.inl h
  | z + 1, x, y, h => h.imp id gt_mono
theorem gt_up {z : Nat} {x y : Int64} (h : sp_gt z x y) : ∀ j, sp_gt (z + j) x y
  | 0 => h
  | j + 1 => gt_mono (gt_up h j)
theorem abs64 {x : Int64} (h : ¬ x = Int64.minValue) : (sp_abs x).toInt = x.toInt.natAbs := by
  have h1 := Int64.le_toInt x
  have h1' := Int64.toInt_lt x
  have h2 : ¬ x.toInt = -2 ^ 63 := fun q => h (Int64.toInt_inj.mp (by rw [q]; rfl))
  unfold sp_abs
  by_cases e : x < 0
  · rw [if_pos e, Int64.toInt_neg, Int.bmod_eq_of_le (by omega) (by omega)]
    rw [Int64.lt_iff_toInt_lt] at e
    have : (0 : Int64).toInt = 0 := rfl
    omega
  · rw [if_neg e]
    rw [Int64.lt_iff_toInt_lt] at e
    have : (0 : Int64).toInt = 0 := rfl
    omega
theorem sh64 {a b : Int64} (ha : ¬ a = Int64.minValue) (hb : ¬ b = Int64.minValue) : (sp_sh a b).toInt = Nat.gcd a.toInt.natAbs b.toInt.natAbs := by
  have h1 := abs64 ha
  have h2 := abs64 hb
  unfold sp_sh
  rw [gcd64 (gt_fb 92 _ _ (by omega) (by omega) (by rw [fb_92]; have := Int64.toInt_lt (sp_abs b); omega) |> fun h => (gt_up h 8)) (by omega) (by omega), h1, h2]
  rfl

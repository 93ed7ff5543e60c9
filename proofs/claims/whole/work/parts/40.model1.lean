/-! THE REFERENCE: small methods; the bowl, lines (object number 65) -/
def sp_rng (v lo hi : Int64) : Int32 := if v < lo then nI 0 else if hi < v then nI 0 else nI 1
def sp_lh (x : Int32) (a b : Nat) : Int32 := if x < nI a then nI 0 else if nI b < x then nI 0 else nI 1
theorem i64_i (x : Int32) : x.toInt64.toInt = x.toInt := Int32.toInt_toInt64 x
theorem rg_c {x : Int32} {v lo hi : Int64} {a b : Int32} (h1 : v < lo ↔ x < a) (h2 : hi < v ↔ b < x) : sp_rng v lo hi = if x < a then nI 0 else if b < x then nI 0 else nI 1 := by
  unfold sp_rng
  by_cases e1 : x < a
  · rw [if_pos e1, if_pos (h1.mpr e1)]
  · rw [if_neg e1, if_neg (mt h1.mp e1)]
    by_cases e2 : b < x
    · rw [if_pos e2, if_pos (h2.mpr e2)]
    · rw [if_neg e2, if_neg (mt h2.mp e2)]
theorem rg_w (x a b : Int32) : sp_rng x.toInt64 a.toInt64 b.toInt64 = if x < a then nI 0 else if b < x then nI 0 else nI 1 := by
  refine rg_c ?_ ?_
  · rw [Int64.lt_iff_toInt_lt, Int32.lt_iff_toInt_lt, i64_i, i64_i]
  · rw [Int64.lt_iff_toInt_lt, Int32.lt_iff_toInt_lt, i64_i, i64_i]
theorem rg_kind (x : Int32) : sp_rng x.toInt64 0 4 = sp_kind x := rg_w x 0 (nI 4)
theorem rg_99 (x : Int32) : sp_rng x.toInt64 (-99) 99 = sp_wi x (nI 99) := rg_w x (-nI 99) (nI 99)
theorem rg_9 (x : Int32) : sp_rng x.toInt64 (-9) 9 = sp_wi x (nI 9) := rg_w x (-nI 9) (nI 9)
theorem rg_13 (x : Int32) : sp_rng x.toInt64 1 3 = sp_lh x 1 3 := rg_w x (nI 1) (nI 3)
theorem rg_040 (x : Int32) : sp_rng x.toInt64 0 40 = sp_lh x 0 40 := rg_w x (nI 0) (nI 40)
theorem rg_06 (x : Int32) : sp_rng x.toInt64 0 6 = sp_lh x 0 6 := rg_w x (nI 0) (nI 6)
theorem rg_bd1 (x : Int32) : sp_rng x.toInt64 1 20 = sp_bend (nI 1) x := by
  rw [sp_bend, if_neg (by decide)]
  exact rg_w x (nI 1) (nI 20)
theorem rg_bd0 (x : Int32) : sp_rng x.toInt64 (-9) 9 = sp_bend (nI 0) x := by
  rw [sp_bend, if_pos (by decide)]
  exact rg_9 x
theorem rg_var0 (x : Int32) {n : Nat} {b : Int32} (hn : n < 2 ^ 31) (hb : b.toInt = (n : Int) - 1) : sp_rng x.toInt64 0 b.toInt64 = sp_var x n := by
  rw [show (0 : Int64) = (0 : Int32).toInt64 from rfl, rg_w]
  unfold sp_var
  by_cases e1 : x < 0
  · rw [if_pos e1, if_pos e1]
  · rw [if_neg e1, if_neg e1]
    have h1 : b < x ↔ ¬ x < nI n := by
      rw [Int32.lt_iff_toInt_lt, Int32.lt_iff_toInt_lt, nI_toInt hn, hb]
      omega
    by_cases e2 : x < nI n
    · rw [if_pos e2, if_neg (fun q => h1.mp q e2)]
    · rw [if_neg e2, if_pos (h1.mpr e2)]
theorem nI_m1 : ∀ n, n < 2000 → (nI n - nI 1).toInt = (n : Int) - 1 := by
  intro n hn
  exact pk_sub_toInt (b := 1) (by omega) (by decide)
theorem rg_var (x : Int32) {n : Nat} (hn : n < 2000) : sp_rng x.toInt64 0 (nI n - nI 1).toInt64 = sp_var x n := rg_var0 x (by omega) (nI_m1 n hn)
theorem rg_2 (x : Int32) : sp_rng x.toInt64 0 2 = sp_var x 3 := rg_var0 x (b := nI 2) (by decide) (by decide)
theorem rg_3 (x : Int32) : sp_rng x.toInt64 0 3 = sp_var x 4 := rg_var0 x (b := nI 3) (by decide) (by decide)
theorem rg_7 (x : Int32) : sp_rng x.toInt64 0 7 = sp_var x 8 := rg_var0 x (b := nI 7) (by decide) (by decide)
def sp_has (x l : Int32) : Int32 := if x >>> (l &&& 31) &&& nI 1 = nI 1 then nI 1 else nI 0
def sp_gt : Nat → Int64 → Int64 → Prop
  | 0, _, y => y = 0
  | z + 1, x, y => y = 0 ∨ sp_gt z y (x - x / y * y)
def sp_low (z : Nat) (a b : Int64) (pt : Int32) : Int64 := if pt = 0 then a / sp_gcd z (sp_abs a) b else b / sp_gcd z (sp_abs a) b
def sp_lesR : Nat → Int64 → Int64 → Int64 → Int64 → Int32
  | 0, _, _, _, _ => nI 0
  | z + 1, p, q, r, s => if sp_fdiv p q = sp_fdiv r s then (if p - sp_fdiv p q * q = 0 then (if r - sp_fdiv r s * s = 0 then nI 0 else nI 1) else if r - sp_fdiv r s * s = 0 then nI 0 else sp_lesR z s (r - sp_fdiv r s * s) q (p - sp_fdiv p q * q)) else if sp_fdiv p q < sp_fdiv r s then nI 1 else nI 0
def sp_lesT : Nat → Int64 → Int64 → Int64 → Int64 → Prop
  | 0, _, _, _, _ => False
  | z + 1, p, q, r, s => ¬ q = 0 ∧ ¬ s = 0 ∧ (sp_fdiv p q = sp_fdiv r s → ¬ p - sp_fdiv p q * q = 0 → ¬ r - sp_fdiv r s * s = 0 → sp_lesT z s (r - sp_fdiv r s * s) q (p - sp_fdiv p q * q))
theorem sp_lesR01 : ∀ (z : Nat) (p q r s : Int64), sp_lesR z p q r s = 0 ∨ sp_lesR z p q r s = 1
  | 0, _, _, _, _ => Or.inl (by rfl)
  | z + 1, p, q, r, s => by
    unfold sp_lesR
    by_cases h : sp_fdiv p q = sp_fdiv r s
    · rw [if_pos h]
      by_cases h1 : p - sp_fdiv p q * q = 0
      · rw [if_pos h1]
        by_cases h2 : r - sp_fdiv r s * s = 0
        · rw [if_pos h2]; exact Or.inl rfl
        · rw [if_neg h2]; exact Or.inr rfl
      · rw [if_neg h1]
        by_cases h2 : r - sp_fdiv r s * s = 0
        · rw [if_pos h2]; exact Or.inl rfl
        · rw [if_neg h2]; exact sp_lesR01 z _ _ _ _
    · rw [if_neg h]
      by_cases h3 : sp_fdiv p q < sp_fdiv r s
      · rw [if_pos h3]; exact Or.inr rfl
      · rw [if_neg h3]; exact Or.inl rfl

theorem tX8_in {G : aw_G} {d : Nat} {Ω : aw_O} {I : aw_MI} {J : aw_MJ} {Q : Int32 → aw_O → aw_MI → aw_MJ → Prop} {a b c : Int64} (hQ : Q (sp_rng a b c) Ω I J) : aw_Call G MX8_in d 0 0 [.long a, .long b, .long c] Ω I J (aw_QI Q) := by
  refine aw_enter (by decide +kernel) rfl (Nat.le_of_ble_eq_true rfl) ?_
  show AW G MX8_in (aw_nx Ω) d 0 0 (aw_QI Q) Ω I J 0 0 [.long a, .null, .long b, .null, .long c, .null] 0 []
  refine aw_lload_n dX8_in_0 rfl ?_
  refine aw_lload_n dX8_in_1 rfl ?_
  refine aw_lcmp dX8_in_2 ?_
  refine aw_if_lt (t := 17) dX8_in_3 (by decide) (fun h1 => ?_) (fun h1 => ?_)
  · skip
    refine aw_iconst (v := nI 0) dX8_in_17 (by decide) ?_
    try simp only [lcmpE, lcmpL, lcmpG, lcmpLE, lcmpGT, nrm_le, nrm_le64, Classical.not_not] at h1
    exact aw_zret dX8_in_18 rfl (by decide) (by first | (simp only [sp_rng, if_pos h1] at hQ; exact hQ) | (unfold sp_rng at hQ; rw [if_pos h1] at hQ; exact hQ) | contradiction) (Nat.zero_le _) (Nat.zero_le _)
  · skip
    refine aw_lload_n dX8_in_6 rfl ?_
    refine aw_lload dX8_in_7 rfl ?_
    refine aw_lcmp dX8_in_9 ?_
    refine aw_if_gt (t := 17) dX8_in_10 (by decide) (fun h2 => ?_) (fun h2 => ?_)
    · skip
      refine aw_iconst (v := nI 0) dX8_in_17 (by decide) ?_
      try simp only [lcmpE, lcmpL, lcmpG, lcmpLE, lcmpGT, nrm_le, nrm_le64, Classical.not_not] at h1
      try simp only [lcmpE, lcmpL, lcmpG, lcmpLE, lcmpGT, nrm_le, nrm_le64, Classical.not_not] at h2
      exact aw_zret dX8_in_18 rfl (by decide) (by first | (simp only [sp_rng, if_neg h1, if_pos h2] at hQ; exact hQ) | (unfold sp_rng at hQ; rw [if_neg h1, if_pos h2] at hQ; exact hQ) | contradiction) (Nat.zero_le _) (Nat.zero_le _)
    · skip
      refine aw_iconst (v := nI 1) dX8_in_13 (by decide) ?_
      refine aw_goto (t := 18) dX8_in_14 (by decide) ?_
      try simp only [lcmpE, lcmpL, lcmpG, lcmpLE, lcmpGT, nrm_le, nrm_le64, Classical.not_not] at h1
      try simp only [lcmpE, lcmpL, lcmpG, lcmpLE, lcmpGT, nrm_le, nrm_le64, Classical.not_not] at h2
      exact aw_zret dX8_in_18 rfl (by decide) (by first | (simp only [sp_rng, if_neg h1, if_neg h2] at hQ; exact hQ) | (unfold sp_rng at hQ; rw [if_neg h1, if_neg h2] at hQ; exact hQ) | contradiction) (Nat.zero_le _) (Nat.zero_le _)
theorem tX8_has {G : aw_G} {d : Nat} {Ω : aw_O} {I : aw_MI} {J : aw_MJ} {Q : Int32 → aw_O → aw_MI → aw_MJ → Prop} {x y : Int32} (hQ : Q (sp_has x y) Ω I J) : aw_Call G MX8_has d 0 0 [.int x, .int y] Ω I J (aw_QI Q) := by
  refine aw_enter (by decide +kernel) rfl (Nat.le_of_ble_eq_true rfl) ?_
  show AW G MX8_has (aw_nx Ω) d 0 0 (aw_QI Q) Ω I J 0 0 [.int x, .int y] 0 []
  refine aw_iload_n dX8_has_0 rfl ?_
  refine aw_iload_n dX8_has_1 rfl ?_
  refine aw_ishr dX8_has_2 ?_
  refine aw_iconst (v := nI 1) dX8_has_3 (by decide) ?_
  refine aw_iand dX8_has_4 ?_
  refine aw_pc (pc2 := 5) rfl ?_
  refine aw_iconst (v := nI 1) dX8_has_5 (by decide) ?_
  refine aw_icmp_ne (t := 13) dX8_has_6 (by decide) (fun h1 => ?_) (fun h1 => ?_)
  · skip
    refine aw_iconst (v := nI 0) dX8_has_13 (by decide) ?_
    try simp only [lcmpE, lcmpL, lcmpG, lcmpLE, lcmpGT, nrm_le, nrm_le64, Classical.not_not] at h1
    exact aw_zret dX8_has_14 rfl (by decide) (by first | (simp only [sp_has, if_neg h1] at hQ; exact hQ) | (unfold sp_has at hQ; rw [if_neg h1] at hQ; exact hQ) | contradiction) (Nat.zero_le _) (Nat.zero_le _)
  · skip
    refine aw_iconst (v := nI 1) dX8_has_9 (by decide) ?_
    refine aw_goto (t := 14) dX8_has_10 (by decide) ?_
    try simp only [lcmpE, lcmpL, lcmpG, lcmpLE, lcmpGT, nrm_le, nrm_le64, Classical.not_not] at h1
    exact aw_zret dX8_has_14 rfl (by decide) (by first | (simp only [sp_has, if_pos h1] at hQ; exact hQ) | (unfold sp_has at hQ; rw [if_pos h1] at hQ; exact hQ) | contradiction) (Nat.zero_le _) (Nat.zero_le _)
theorem tX8_isPart {G : aw_G} {d : Nat} {Ω : aw_O} {I : aw_MI} {J : aw_MJ} {Q : Int32 → aw_O → aw_MI → aw_MJ → Prop} {x : Int32} (hQ : Q (sp_part x) Ω I J) : aw_Call G MX8_isPart d 0 0 [.int x] Ω I J (aw_QI Q) := by
  refine aw_enter (by decide +kernel) rfl (Nat.le_of_ble_eq_true rfl) ?_
  show AW G MX8_isPart (aw_nx Ω) d 0 0 (aw_QI Q) Ω I J 0 0 [.int x] 0 []
  refine aw_iload_n dX8_isPart_0 rfl ?_
  refine aw_if_eq (t := 9) dX8_isPart_1 (by decide) (fun h1 => ?_) (fun h1 => ?_)
  · skip
    refine aw_iconst (v := nI 1) dX8_isPart_9 (by decide) ?_
    refine aw_goto (t := 14) dX8_isPart_10 (by decide) ?_
    try simp only [lcmpE, lcmpL, lcmpG, lcmpLE, lcmpGT, nrm_le, nrm_le64, Classical.not_not] at h1
    exact aw_zret dX8_isPart_14 rfl (by decide) (by first | (simp only [sp_part, if_pos h1] at hQ; exact hQ) | (unfold sp_part at hQ; rw [if_pos h1] at hQ; exact hQ) | contradiction) (Nat.zero_le _) (Nat.zero_le _)
  · skip
    refine aw_iload_n dX8_isPart_4 rfl ?_
    refine aw_iconst (v := nI 1) dX8_isPart_5 (by decide) ?_
    refine aw_icmp_ne (t := 13) dX8_isPart_6 (by decide) (fun h2 => ?_) (fun h2 => ?_)
    · skip
      refine aw_iconst (v := nI 0) dX8_isPart_13 (by decide) ?_
      try simp only [lcmpE, lcmpL, lcmpG, lcmpLE, lcmpGT, nrm_le, nrm_le64, Classical.not_not] at h1
      try simp only [lcmpE, lcmpL, lcmpG, lcmpLE, lcmpGT, nrm_le, nrm_le64, Classical.not_not] at h2
      exact aw_zret dX8_isPart_14 rfl (by decide) (by first | (simp only [sp_part, if_neg h1, if_neg h2] at hQ; exact hQ) | (unfold sp_part at hQ; rw [if_neg h1, if_neg h2] at hQ; exact hQ) | contradiction) (Nat.zero_le _) (Nat.zero_le _)
    · skip
      refine aw_iconst (v := nI 1) dX8_isPart_9 (by decide) ?_
      refine aw_goto (t := 14) dX8_isPart_10 (by decide) ?_
      try simp only [lcmpE, lcmpL, lcmpG, lcmpLE, lcmpGT, nrm_le, nrm_le64, Classical.not_not] at h1
      try simp only [lcmpE, lcmpL, lcmpG, lcmpLE, lcmpGT, nrm_le, nrm_le64, Classical.not_not] at h2
      exact aw_zret dX8_isPart_14 rfl (by decide) (by first | (simp only [sp_part, if_neg h1, if_pos h2] at hQ; exact hQ) | (unfold sp_part at hQ; rw [if_neg h1, if_pos h2] at hQ; exact hQ) | contradiction) (Nat.zero_le _) (Nat.zero_le _)
theorem tX8_refused {G : aw_G} {d : Nat} {Ω : aw_O} {I : aw_MI} {J : aw_MJ} {Q : Int64 → aw_O → aw_MI → aw_MJ → Prop} {x : Int32} (hQ : Q (-4611686018427387904 + x.toInt64) Ω I J) : aw_Call G MX8_refused d 0 0 [.int x] Ω I J (aw_QL Q) := by
  refine aw_enter (by decide +kernel) rfl (Nat.le_of_ble_eq_true rfl) ?_
  show AW G MX8_refused (aw_nx Ω) d 0 0 (aw_QL Q) Ω I J 0 0 [.int x] 0 []
  refine aw_ldc2 (v := -4611686018427387904) dX8_refused_0 (aw_pl 1039 (by decide +kernel) rfl) ?_
  refine aw_iload_n dX8_refused_3 rfl ?_
  refine aw_i2l dX8_refused_4 ?_
  refine aw_ladd dX8_refused_5 ?_
  exact aw_lret dX8_refused_6 rfl (hQ) (Nat.zero_le _) (Nat.zero_le _)
theorem lX8_divisor {G : aw_G} {d : Nat} {Ω : aw_O} {I : aw_MI} {J : aw_MJ} {Q : Int64 → aw_O → aw_MI → aw_MJ → Prop} {a b : Int64}  : ∀ (z : Nat) (x y : Int64), sp_gt z x y → Q (sp_gcd z x y) Ω I J → AW G MX8_divisor (aw_nx Ω) d 0 0 (aw_QL Q) Ω I J 0 0 [.long a, .null, .long b, .null, .long x, .null, .long y, .null, .null, .null] 17 [] := by
  intro z
  induction z with
  | zero =>
    intro x y h0 hQ
    refine aw_lload dX8_divisor_17 rfl ?_
    refine aw_lconst (v := 0) dX8_divisor_19 (by decide) ?_
    refine aw_lcmp dX8_divisor_20 ?_
    refine aw_if_eq (t := 42) dX8_divisor_21 (by decide) (fun h1 => ?_) (fun h1 => absurd (lcmpE.mpr h0) h1)
    refine aw_lload dX8_divisor_42 rfl ?_
    exact aw_lret dX8_divisor_44 rfl hQ (Nat.zero_le _) (Nat.zero_le _)
  | succ z ih =>
    intro x y h0 hQ
    refine aw_lload dX8_divisor_17 rfl ?_
    refine aw_lconst (v := 0) dX8_divisor_19 (by decide) ?_
    refine aw_lcmp dX8_divisor_20 ?_
    refine aw_if_eq (t := 42) dX8_divisor_21 (by decide) (fun h1 => ?_) (fun h1 => ?_)
    · skip
      refine aw_lload dX8_divisor_42 rfl ?_
      exact aw_lret dX8_divisor_44 rfl (by rw [sp_gcd, if_pos (lcmpE.mp h1)] at hQ; exact hQ) (Nat.zero_le _) (Nat.zero_le _)
    · skip
      refine aw_lload dX8_divisor_24 rfl ?_
      refine aw_lload dX8_divisor_26 rfl ?_
      refine aw_lrem dX8_divisor_28 (fun q => h1 (lcmpE.mpr q)) ?_
      refine aw_lstore dX8_divisor_29 (by decide) ?_
      refine aw_lv (lv2 := [.long _, .null, .long _, .null, .long _, .null, .long _, .null, .long _, .null]) rfl ?_
      refine aw_lload dX8_divisor_31 rfl ?_
      refine aw_pc (pc2 := 33) rfl ?_
      refine aw_lstore dX8_divisor_33 (by decide) ?_
      refine aw_lv (lv2 := [.long _, .null, .long _, .null, .long _, .null, .long _, .null, .long _, .null]) rfl ?_
      refine aw_lload dX8_divisor_35 rfl ?_
      refine aw_lstore dX8_divisor_37 (by decide) ?_
      refine aw_lv (lv2 := [.long _, .null, .long _, .null, .long _, .null, .long _, .null, .long _, .null]) rfl ?_
      refine aw_goto (t := 17) dX8_divisor_39 (by decide) ?_
      refine aw_frg 8 ?_
      have hy : ¬ y = 0 := fun q => h1 (lcmpE.mpr q)
      exact ih _ _ (h0.resolve_left hy) (by rw [sp_gcd, if_neg hy] at hQ; exact hQ)
theorem tX8_divisor {G : aw_G} {d : Nat} {Ω : aw_O} {I : aw_MI} {J : aw_MJ} {Q : Int64 → aw_O → aw_MI → aw_MJ → Prop} {a b : Int64} {z : Nat} (hz : sp_gt z (sp_abs a) b) (hQ : Q (sp_gcd z (sp_abs a) b) Ω I J) : aw_Call G MX8_divisor d 0 0 [.long a, .long b] Ω I J (aw_QL Q) := by
  refine aw_enter (by decide +kernel) rfl (Nat.le_of_ble_eq_true rfl) ?_
  show AW G MX8_divisor (aw_nx Ω) d 0 0 (aw_QL Q) Ω I J 0 0 [.long a, .null, .long b, .null, .null, .null, .null, .null, .null, .null] 0 []
  refine aw_lload_n dX8_divisor_0 rfl ?_
  refine aw_lconst (v := 0) dX8_divisor_1 (by decide) ?_
  refine aw_lcmp dX8_divisor_2 ?_
  refine aw_if_ge (t := 11) dX8_divisor_3 (by decide) (fun h1 => ?_) (fun h1 => ?_)
  · skip
    refine aw_lload_n dX8_divisor_11 rfl ?_
    refine aw_lstore dX8_divisor_12 (by decide) ?_
    refine aw_lv (lv2 := [.long _, .null, .long _, .null, .long _, .null, .null, .null, .null, .null]) rfl ?_
    refine aw_lload_n dX8_divisor_14 rfl ?_
    refine aw_lstore dX8_divisor_15 (by decide) ?_
    refine aw_lv (lv2 := [.long _, .null, .long _, .null, .long _, .null, .long _, .null, .null, .null]) rfl ?_
    simp only [lcmpE, lcmpL, lcmpG, lcmpLE, lcmpGT, nrm_le, nrm_le64, Classical.not_not] at h1
    have ea : sp_abs a = a := if_neg h1
    rw [ea] at hz hQ
    exact lX8_divisor z _ _ hz hQ
  · skip
    refine aw_lload_n dX8_divisor_6 rfl ?_
    refine aw_lneg dX8_divisor_7 ?_
    refine aw_goto (t := 12) dX8_divisor_8 (by decide) ?_
    refine aw_lstore dX8_divisor_12 (by decide) ?_
    refine aw_lv (lv2 := [.long _, .null, .long _, .null, .long _, .null, .null, .null, .null, .null]) rfl ?_
    refine aw_lload_n dX8_divisor_14 rfl ?_
    refine aw_lstore dX8_divisor_15 (by decide) ?_
    refine aw_lv (lv2 := [.long _, .null, .long _, .null, .long _, .null, .long _, .null, .null, .null]) rfl ?_
    simp only [lcmpE, lcmpL, lcmpG, lcmpLE, lcmpGT, nrm_le, nrm_le64, Classical.not_not] at h1
    have ea : sp_abs a = -a := if_pos h1
    rw [ea] at hz hQ
    exact lX8_divisor z _ _ hz hQ
theorem tX8_lowest {G : aw_G} {d : Nat} {Ω : aw_O} {I : aw_MI} {J : aw_MJ} {Q : Int64 → aw_O → aw_MI → aw_MJ → Prop} {a b : Int64} {pt : Int32} {z : Nat} (hz : sp_gt z (sp_abs a) b) (hne : ¬ sp_gcd z (sp_abs a) b = 0) (hd : 1 ≤ d) (hQ : Q (sp_low z a b pt) Ω I J) : aw_Call G MX8_lowest d 0 0 [.long a, .long b, .int pt] Ω I J (aw_QL Q) := by
  refine aw_enter (by decide +kernel) rfl (Nat.le_of_ble_eq_true rfl) ?_
  show AW G MX8_lowest (aw_nx Ω) d 0 0 (aw_QL Q) Ω I J 0 0 [.long a, .null, .long b, .null, .int pt, .null, .null] 0 []
  refine aw_lload_n dX8_lowest_0 rfl ?_
  refine aw_lload_n dX8_lowest_1 rfl ?_
  refine aw_csL (As := [_, _]) (d' := d - 1) dX8_lowest_2 lkX8_71 (by omega) rfl rfl (Nat.le_of_ble_eq_true rfl) ⟨Nat.le_refl _, Nat.le_refl _⟩ (tX8_divisor hz ?_)
  refine aw_lstore dX8_lowest_5 (by decide) ?_
  refine aw_lv (lv2 := [.long _, .null, .long _, .null, .int _, .long _, .null]) rfl ?_
  refine aw_iload dX8_lowest_7 rfl ?_
  refine aw_pc (pc2 := 9) rfl ?_
  refine aw_if_ne (t := 16) dX8_lowest_9 (by decide) (fun h1 => ?_) (fun h1 => ?_)
  · skip
    refine aw_lload_n dX8_lowest_16 rfl ?_
    refine aw_lload dX8_lowest_17 rfl ?_
    refine aw_ldiv dX8_lowest_19 hne ?_
    try simp only [lcmpE, lcmpL, lcmpG, lcmpLE, lcmpGT, nrm_le, nrm_le64, Classical.not_not] at h1
    exact aw_lret dX8_lowest_20 rfl (by first | (simp only [sp_low, if_neg h1] at hQ; exact hQ) | (unfold sp_low at hQ; rw [if_neg h1] at hQ; exact hQ) | contradiction) (Nat.zero_le _) (Nat.zero_le _)
  · skip
    refine aw_lload_n dX8_lowest_12 rfl ?_
    refine aw_goto (t := 17) dX8_lowest_13 (by decide) ?_
    refine aw_lload dX8_lowest_17 rfl ?_
    refine aw_ldiv dX8_lowest_19 hne ?_
    try simp only [lcmpE, lcmpL, lcmpG, lcmpLE, lcmpGT, nrm_le, nrm_le64, Classical.not_not] at h1
    exact aw_lret dX8_lowest_20 rfl (by first | (simp only [sp_low, if_pos h1] at hQ; exact hQ) | (unfold sp_low at hQ; rw [if_pos h1] at hQ; exact hQ) | contradiction) (Nat.zero_le _) (Nat.zero_le _)
theorem tX8_isLess {G : aw_G} {Ω : aw_O} {I : aw_MI} {J : aw_MJ} : ∀ {z : Nat} {a b c e : Int64} {d : Nat} {Q : Int32 → aw_O → aw_MI → aw_MJ → Prop}, z + 1 ≤ d → sp_lesT z a b c e → Q (sp_lesR z a b c e) Ω I J → aw_Call G MX8_isLess d 0 0 [.long a, .long b, .long c, .long e] Ω I J (aw_QI Q) := by
  intro z
  induction z with
  | zero =>
    intro a b c e d Q hd hz hQ
    exact absurd hz (fun q => q)
  | succ z ih =>
    intro a b c e d Q hd hz hQ
    refine aw_enter (by decide +kernel) rfl (Nat.le_of_ble_eq_true rfl) ?_
    show AW G MX8_isLess (aw_nx Ω) d 0 0 (aw_QI Q) Ω I J 0 0 [.long a, .null, .long b, .null, .long c, .null, .long e, .null, .null, .null, .null, .null, .null, .null, .null, .null] 0 []
    refine aw_lload_n dX8_isLess_0 rfl ?_
    refine aw_lload_n dX8_isLess_1 rfl ?_
    refine aw_csL (As := [_, _]) (d' := d - 1) dX8_isLess_2 lkX8_75 (by omega) rfl rfl (Nat.le_of_ble_eq_true rfl) ⟨Nat.le_refl _, Nat.le_refl _⟩ (tJ9_floorDiv_f86c9 hz.1 ?_)
    refine aw_lstore dX8_isLess_5 (by decide) ?_
    refine aw_lv (lv2 := [.long _, .null, .long _, .null, .long _, .null, .long _, .null, .long _, .null, .null, .null, .null, .null, .null, .null]) rfl ?_
    refine aw_lload dX8_isLess_7 rfl ?_
    refine aw_pc (pc2 := 9) rfl ?_
    refine aw_lload dX8_isLess_9 rfl ?_
    refine aw_csL (As := [_, _]) (d' := d - 1) dX8_isLess_11 lkX8_75 (by omega) rfl rfl (Nat.le_of_ble_eq_true rfl) ⟨Nat.le_refl _, Nat.le_refl _⟩ (tJ9_floorDiv_f86c9 hz.2.1 ?_)
    refine aw_lstore dX8_isLess_14 (by decide) ?_
    refine aw_lv (lv2 := [.long _, .null, .long _, .null, .long _, .null, .long _, .null, .long _, .null, .long _, .null, .null, .null, .null, .null]) rfl ?_
    refine aw_lload dX8_isLess_16 rfl ?_
    refine aw_lload dX8_isLess_18 rfl ?_
    refine aw_lcmp dX8_isLess_20 ?_
    refine aw_pc (pc2 := 21) rfl ?_
    refine aw_if_eq (t := 38) dX8_isLess_21 (by decide) (fun h1 => ?_) (fun h1 => ?_)
    · skip
      refine aw_lload_n dX8_isLess_38 rfl ?_
      refine aw_lload dX8_isLess_39 rfl ?_
      refine aw_lload_n dX8_isLess_41 rfl ?_
      refine aw_lmul dX8_isLess_42 ?_
      refine aw_lsub dX8_isLess_43 ?_
      refine aw_pc (pc2 := 44) rfl ?_
      refine aw_lstore dX8_isLess_44 (by decide) ?_
      refine aw_lv (lv2 := [.long _, .null, .long _, .null, .long _, .null, .long _, .null, .long _, .null, .long _, .null, .long _, .null, .null, .null]) rfl ?_
      refine aw_lload dX8_isLess_46 rfl ?_
      refine aw_lload dX8_isLess_48 rfl ?_
      refine aw_lload dX8_isLess_50 rfl ?_
      refine aw_lmul dX8_isLess_52 ?_
      refine aw_lsub dX8_isLess_53 ?_
      refine aw_pc (pc2 := 54) rfl ?_
      refine aw_lstore dX8_isLess_54 (by decide) ?_
      refine aw_lv (lv2 := [.long _, .null, .long _, .null, .long _, .null, .long _, .null, .long _, .null, .long _, .null, .long _, .null, .long _, .null]) rfl ?_
      refine aw_lload dX8_isLess_56 rfl ?_
      refine aw_lconst (v := 0) dX8_isLess_58 (by decide) ?_
      refine aw_lcmp dX8_isLess_59 ?_
      refine aw_if_eq (t := 70) dX8_isLess_60 (by decide) (fun h2 => ?_) (fun h2 => ?_)
      · skip
        refine aw_lload dX8_isLess_70 rfl ?_
        refine aw_lconst (v := 0) dX8_isLess_72 (by decide) ?_
        refine aw_lcmp dX8_isLess_73 ?_
        refine aw_if_ne (t := 88) dX8_isLess_74 (by decide) (fun h3 => ?_) (fun h3 => ?_)
        · skip
          refine aw_iconst (v := nI 0) dX8_isLess_88 (by decide) ?_
          refine aw_goto (t := 102) dX8_isLess_89 (by decide) ?_
          try simp only [lcmpE, lcmpL, lcmpG, lcmpLE, lcmpGT, nrm_le, nrm_le64, Classical.not_not] at h1
          try simp only [lcmpE, lcmpL, lcmpG, lcmpLE, lcmpGT, nrm_le, nrm_le64, Classical.not_not] at h2
          try simp only [lcmpE, lcmpL, lcmpG, lcmpLE, lcmpGT, nrm_le, nrm_le64, Classical.not_not] at h3
          exact aw_zret dX8_isLess_102 rfl (by decide) (by first | (simp only [sp_lesR, if_pos h1, if_pos h2, if_neg h3] at hQ; exact hQ) | (unfold sp_lesR at hQ; rw [if_pos h1, if_pos h2, if_neg h3] at hQ; exact hQ) | contradiction) (Nat.zero_le _) (Nat.zero_le _)
        · skip
          refine aw_lload dX8_isLess_77 rfl ?_
          refine aw_lconst (v := 0) dX8_isLess_79 (by decide) ?_
          refine aw_lcmp dX8_isLess_80 ?_
          refine aw_if_eq (t := 88) dX8_isLess_81 (by decide) (fun h4 => ?_) (fun h4 => ?_)
          · skip
            refine aw_iconst (v := nI 0) dX8_isLess_88 (by decide) ?_
            refine aw_goto (t := 102) dX8_isLess_89 (by decide) ?_
            try simp only [lcmpE, lcmpL, lcmpG, lcmpLE, lcmpGT, nrm_le, nrm_le64, Classical.not_not] at h1
            try simp only [lcmpE, lcmpL, lcmpG, lcmpLE, lcmpGT, nrm_le, nrm_le64, Classical.not_not] at h2
            try simp only [lcmpE, lcmpL, lcmpG, lcmpLE, lcmpGT, nrm_le, nrm_le64, Classical.not_not] at h3
            try simp only [lcmpE, lcmpL, lcmpG, lcmpLE, lcmpGT, nrm_le, nrm_le64, Classical.not_not] at h4
            exact aw_zret dX8_isLess_102 rfl (by decide) (by first | (simp only [sp_lesR, if_pos h1, if_pos h2, if_pos h3, if_pos h4] at hQ; exact hQ) | (unfold sp_lesR at hQ; rw [if_pos h1, if_pos h2, if_pos h3, if_pos h4] at hQ; exact hQ) | contradiction) (Nat.zero_le _) (Nat.zero_le _)
          · skip
            refine aw_iconst (v := nI 1) dX8_isLess_84 (by decide) ?_
            refine aw_goto (t := 102) dX8_isLess_85 (by decide) ?_
            try simp only [lcmpE, lcmpL, lcmpG, lcmpLE, lcmpGT, nrm_le, nrm_le64, Classical.not_not] at h1
            try simp only [lcmpE, lcmpL, lcmpG, lcmpLE, lcmpGT, nrm_le, nrm_le64, Classical.not_not] at h2
            try simp only [lcmpE, lcmpL, lcmpG, lcmpLE, lcmpGT, nrm_le, nrm_le64, Classical.not_not] at h3
            try simp only [lcmpE, lcmpL, lcmpG, lcmpLE, lcmpGT, nrm_le, nrm_le64, Classical.not_not] at h4
            exact aw_zret dX8_isLess_102 rfl (by decide) (by first | (simp only [sp_lesR, if_pos h1, if_pos h2, if_pos h3, if_neg h4] at hQ; exact hQ) | (unfold sp_lesR at hQ; rw [if_pos h1, if_pos h2, if_pos h3, if_neg h4] at hQ; exact hQ) | contradiction) (Nat.zero_le _) (Nat.zero_le _)
      · skip
        refine aw_lload dX8_isLess_63 rfl ?_
        refine aw_lconst (v := 0) dX8_isLess_65 (by decide) ?_
        refine aw_lcmp dX8_isLess_66 ?_
        refine aw_if_ne (t := 92) dX8_isLess_67 (by decide) (fun h5 => ?_) (fun h5 => ?_)
        · skip
          refine aw_lload dX8_isLess_92 rfl ?_
          refine aw_lload dX8_isLess_94 rfl ?_
          refine aw_lload_n dX8_isLess_96 rfl ?_
          refine aw_lload dX8_isLess_97 rfl ?_
          refine aw_csI (As := [_, _, _, _]) (d' := d - 1) dX8_isLess_99 lkX8_80 (by omega) rfl rfl (Nat.le_of_ble_eq_true rfl) ⟨Nat.le_refl _, Nat.le_refl _⟩ (ih (d := d - 1) (by omega) (hz.2.2 (lcmpE.mp h1) (fun q => h2 (lcmpE.mpr q)) (fun q => h5 (lcmpE.mpr q))) ?_)
          refine aw_pc (pc2 := 102) rfl ?_
          try simp only [lcmpE, lcmpL, lcmpG, lcmpLE, lcmpGT, nrm_le, nrm_le64, Classical.not_not] at h1
          try simp only [lcmpE, lcmpL, lcmpG, lcmpLE, lcmpGT, nrm_le, nrm_le64, Classical.not_not] at h2
          try simp only [lcmpE, lcmpL, lcmpG, lcmpLE, lcmpGT, nrm_le, nrm_le64, Classical.not_not] at h5
          exact aw_zret dX8_isLess_102 rfl (sp_lesR01 _ _ _ _ _) (by simp only [sp_lesR, if_pos h1, if_neg h2, if_neg h5] at hQ; exact hQ) (Nat.zero_le _) (Nat.zero_le _)
        · skip
          refine aw_lload dX8_isLess_70 rfl ?_
          refine aw_lconst (v := 0) dX8_isLess_72 (by decide) ?_
          refine aw_lcmp dX8_isLess_73 ?_
          refine aw_if_ne (t := 88) dX8_isLess_74 (by decide) (fun h6 => ?_) (fun h6 => ?_)
          · skip
            refine aw_iconst (v := nI 0) dX8_isLess_88 (by decide) ?_
            refine aw_goto (t := 102) dX8_isLess_89 (by decide) ?_
            try simp only [lcmpE, lcmpL, lcmpG, lcmpLE, lcmpGT, nrm_le, nrm_le64, Classical.not_not] at h1
            try simp only [lcmpE, lcmpL, lcmpG, lcmpLE, lcmpGT, nrm_le, nrm_le64, Classical.not_not] at h2
            try simp only [lcmpE, lcmpL, lcmpG, lcmpLE, lcmpGT, nrm_le, nrm_le64, Classical.not_not] at h5
            try simp only [lcmpE, lcmpL, lcmpG, lcmpLE, lcmpGT, nrm_le, nrm_le64, Classical.not_not] at h6
            exact aw_zret dX8_isLess_102 rfl (by decide) (by first | (simp only [sp_lesR, if_pos h1, if_neg h2, if_pos h5, if_neg h6] at hQ; exact hQ) | (unfold sp_lesR at hQ; rw [if_pos h1, if_neg h2, if_pos h5, if_neg h6] at hQ; exact hQ) | contradiction) (Nat.zero_le _) (Nat.zero_le _)
          · skip
            refine aw_lload dX8_isLess_77 rfl ?_
            refine aw_lconst (v := 0) dX8_isLess_79 (by decide) ?_
            refine aw_lcmp dX8_isLess_80 ?_
            refine aw_if_eq (t := 88) dX8_isLess_81 (by decide) (fun h7 => ?_) (fun h7 => ?_)
            · skip
              refine aw_iconst (v := nI 0) dX8_isLess_88 (by decide) ?_
              refine aw_goto (t := 102) dX8_isLess_89 (by decide) ?_
              try simp only [lcmpE, lcmpL, lcmpG, lcmpLE, lcmpGT, nrm_le, nrm_le64, Classical.not_not] at h1
              try simp only [lcmpE, lcmpL, lcmpG, lcmpLE, lcmpGT, nrm_le, nrm_le64, Classical.not_not] at h2
              try simp only [lcmpE, lcmpL, lcmpG, lcmpLE, lcmpGT, nrm_le, nrm_le64, Classical.not_not] at h5
              try simp only [lcmpE, lcmpL, lcmpG, lcmpLE, lcmpGT, nrm_le, nrm_le64, Classical.not_not] at h6
              try simp only [lcmpE, lcmpL, lcmpG, lcmpLE, lcmpGT, nrm_le, nrm_le64, Classical.not_not] at h7
              exact aw_zret dX8_isLess_102 rfl (by decide) (by first | (simp only [sp_lesR, if_pos h1, if_neg h2, if_pos h5, if_pos h6, if_pos h7] at hQ; exact hQ) | (unfold sp_lesR at hQ; rw [if_pos h1, if_neg h2, if_pos h5, if_pos h6, if_pos h7] at hQ; exact hQ) | contradiction) (Nat.zero_le _) (Nat.zero_le _)
            · skip
              refine aw_iconst (v := nI 1) dX8_isLess_84 (by decide) ?_
              refine aw_goto (t := 102) dX8_isLess_85 (by decide) ?_
              try simp only [lcmpE, lcmpL, lcmpG, lcmpLE, lcmpGT, nrm_le, nrm_le64, Classical.not_not] at h1
              try simp only [lcmpE, lcmpL, lcmpG, lcmpLE, lcmpGT, nrm_le, nrm_le64, Classical.not_not] at h2
              try simp only [lcmpE, lcmpL, lcmpG, lcmpLE, lcmpGT, nrm_le, nrm_le64, Classical.not_not] at h5
              try simp only [lcmpE, lcmpL, lcmpG, lcmpLE, lcmpGT, nrm_le, nrm_le64, Classical.not_not] at h6
              try simp only [lcmpE, lcmpL, lcmpG, lcmpLE, lcmpGT, nrm_le, nrm_le64, Classical.not_not] at h7
              exact aw_zret dX8_isLess_102 rfl (by decide) (by first | (simp only [sp_lesR, if_pos h1, if_neg h2, if_pos h5, if_pos h6, if_neg h7] at hQ; exact hQ) | (unfold sp_lesR at hQ; rw [if_pos h1, if_neg h2, if_pos h5, if_pos h6, if_neg h7] at hQ; exact hQ) | contradiction) (Nat.zero_le _) (Nat.zero_le _)
    · skip
      refine aw_lload dX8_isLess_24 rfl ?_
      refine aw_lload dX8_isLess_26 rfl ?_
      refine aw_lcmp dX8_isLess_28 ?_
      refine aw_if_ge (t := 36) dX8_isLess_29 (by decide) (fun h8 => ?_) (fun h8 => ?_)
      · skip
        refine aw_iconst (v := nI 0) dX8_isLess_36 (by decide) ?_
        try simp only [lcmpE, lcmpL, lcmpG, lcmpLE, lcmpGT, nrm_le, nrm_le64, Classical.not_not] at h1
        try simp only [lcmpE, lcmpL, lcmpG, lcmpLE, lcmpGT, nrm_le, nrm_le64, Classical.not_not] at h8
        exact aw_zret dX8_isLess_37 rfl (by decide) (by first | (simp only [sp_lesR, if_neg h1, if_neg h8] at hQ; exact hQ) | (unfold sp_lesR at hQ; rw [if_neg h1, if_neg h8] at hQ; exact hQ) | contradiction) (Nat.zero_le _) (Nat.zero_le _)
      · skip
        refine aw_iconst (v := nI 1) dX8_isLess_32 (by decide) ?_
        refine aw_goto (t := 37) dX8_isLess_33 (by decide) ?_
        try simp only [lcmpE, lcmpL, lcmpG, lcmpLE, lcmpGT, nrm_le, nrm_le64, Classical.not_not] at h1
        try simp only [lcmpE, lcmpL, lcmpG, lcmpLE, lcmpGT, nrm_le, nrm_le64, Classical.not_not] at h8
        exact aw_zret dX8_isLess_37 rfl (by decide) (by first | (simp only [sp_lesR, if_neg h1, if_pos h8] at hQ; exact hQ) | (unfold sp_lesR at hQ; rw [if_neg h1, if_pos h8] at hQ; exact hQ) | contradiction) (Nat.zero_le _) (Nat.zero_le _)
theorem sp_var01 (x : Int32) (n : Nat) : sp_var x n = 0 ∨ sp_var x n = 1 := by
  unfold sp_var
  by_cases h : x < 0
  · rw [if_pos h]; exact Or.inl (by decide)
  · rw [if_neg h]
    by_cases h2 : x < nI n
    · rw [if_pos h2]; exact Or.inr (by decide)
    · rw [if_neg h2]; exact Or.inl (by decide)
theorem tX8_isVariable {G : aw_G} {d : Nat} {Ω : aw_O} {I : aw_MI} {J : aw_MJ} {Q : Int32 → aw_O → aw_MI → aw_MJ → Prop} {n : Nat} {x : Int32} (hM : aw_model Ω 65) (hn : I 65 0 = nI n) (hn3 : n ≤ 3) (hd : 1 ≤ d) (hQ : Q (sp_var x n) Ω I J) : aw_Call G MX8_isVariable d 0 0 [.ref (aw_ad G 65), .int x] Ω I J (aw_QI Q) := by
  refine aw_enter (by decide +kernel) rfl (Nat.le_of_ble_eq_true rfl) ?_
  show AW G MX8_isVariable (aw_nx Ω) d 0 0 (aw_QI Q) Ω I J 0 0 [.ref (aw_ad G 65), .int x] 0 []
  refine aw_iload_n dX8_isVariable_0 rfl ?_
  refine aw_i2l dX8_isVariable_1 ?_
  refine aw_lconst (v := 0) dX8_isVariable_2 (by decide) ?_
  refine aw_aload_n dX8_isVariable_3 rfl ?_
  refine aw_getIv (v := nI n) dX8_isVariable_4 flX8_7 hM.o (by first | exact hn | (simp (disch := omega) only [aw_cp_off, aw_up_off, aw_wr_off, aw_fill_off, aw_fr_off]; exact hn)) ?_
  refine aw_pc (pc2 := 7) rfl ?_
  refine aw_iconst (v := nI 1) dX8_isVariable_7 (by decide) ?_
  refine aw_isub dX8_isVariable_8 ?_
  refine aw_i2l dX8_isVariable_9 ?_
  refine aw_csI (As := [_, _, _]) (d' := d - 1) dX8_isVariable_10 lkX8_84 (by omega) rfl rfl (Nat.le_of_ble_eq_true rfl) ⟨Nat.le_refl _, Nat.le_refl _⟩ (tX8_in ?_)
  refine aw_toI (rg_var x (by omega)) ?_
  exact aw_zret dX8_isVariable_13 rfl (sp_var01 _ _) hQ (Nat.zero_le _) (Nat.zero_le _)
theorem tX8_isLine {G : aw_G} {d : Nat} {Ω : aw_O} {I : aw_MI} {J : aw_MJ} {Q : Int32 → aw_O → aw_MI → aw_MJ → Prop} {m : Nat} {x : Int32} (hM : aw_model Ω 65) (hm : I 65 4 = nI m) (hm6 : m ≤ 6) (hd : 1 ≤ d) (hQ : Q (sp_var x m) Ω I J) : aw_Call G MX8_isLine d 0 0 [.ref (aw_ad G 65), .int x] Ω I J (aw_QI Q) := by
  refine aw_enter (by decide +kernel) rfl (Nat.le_of_ble_eq_true rfl) ?_
  show AW G MX8_isLine (aw_nx Ω) d 0 0 (aw_QI Q) Ω I J 0 0 [.ref (aw_ad G 65), .int x] 0 []
  refine aw_iload_n dX8_isLine_0 rfl ?_
  refine aw_i2l dX8_isLine_1 ?_
  refine aw_lconst (v := 0) dX8_isLine_2 (by decide) ?_
  refine aw_aload_n dX8_isLine_3 rfl ?_
  refine aw_getIv (v := nI m) dX8_isLine_4 flX8_88 hM.o (by first | exact hm | (simp (disch := omega) only [aw_cp_off, aw_up_off, aw_wr_off, aw_fill_off, aw_fr_off]; exact hm)) ?_
  refine aw_pc (pc2 := 7) rfl ?_
  refine aw_iconst (v := nI 1) dX8_isLine_7 (by decide) ?_
  refine aw_isub dX8_isLine_8 ?_
  refine aw_i2l dX8_isLine_9 ?_
  refine aw_csI (As := [_, _, _]) (d' := d - 1) dX8_isLine_10 lkX8_84 (by omega) rfl rfl (Nat.le_of_ble_eq_true rfl) ⟨Nat.le_refl _, Nat.le_refl _⟩ (tX8_in ?_)
  refine aw_toI (rg_var x (by omega)) ?_
  exact aw_zret dX8_isLine_13 rfl (sp_var01 _ _) hQ (Nat.zero_le _) (Nat.zero_le _)
theorem rg_set (x : Int32) {m : Nat} (hm : m ≤ 6) : sp_rng x.toInt64 0 (sp_all m).toInt64 = sp_var x (2 ^ m) := by
  have h64 : 2 ^ m ≤ 2 ^ 6 := Nat.pow_le_pow_right (by decide) hm
  have hpos : 0 < 2 ^ m := Nat.pos_of_ne_zero (by simp)
  refine rg_var0 x (by omega) ?_
  rw [sp_all_nI m (by omega), nI_toInt (by omega)]
  omega
theorem tX8_isSet {G : aw_G} {d : Nat} {Ω : aw_O} {I : aw_MI} {J : aw_MJ} {Q : Int32 → aw_O → aw_MI → aw_MJ → Prop} {m : Nat} {x : Int32} (hM : aw_model Ω 65) (hm : I 65 4 = nI m) (hm6 : m ≤ 6) (hd : 1 ≤ d) (hQ : Q (sp_var x (2 ^ m)) Ω I J) : aw_Call G MX8_isSet d 0 0 [.ref (aw_ad G 65), .int x] Ω I J (aw_QI Q) := by
  refine aw_enter (by decide +kernel) rfl (Nat.le_of_ble_eq_true rfl) ?_
  show AW G MX8_isSet (aw_nx Ω) d 0 0 (aw_QI Q) Ω I J 0 0 [.ref (aw_ad G 65), .int x] 0 []
  refine aw_iload_n dX8_isSet_0 rfl ?_
  refine aw_i2l dX8_isSet_1 ?_
  refine aw_lconst (v := 0) dX8_isSet_2 (by decide) ?_
  refine aw_iconst (v := nI 1) dX8_isSet_3 (by decide) ?_
  refine aw_aload_n dX8_isSet_4 rfl ?_
  refine aw_pc (pc2 := 5) rfl ?_
  refine aw_getIv (v := nI m) dX8_isSet_5 flX8_88 hM.o (by first | exact hm | (simp (disch := omega) only [aw_cp_off, aw_up_off, aw_wr_off, aw_fill_off, aw_fr_off]; exact hm)) ?_
  refine aw_ishl dX8_isSet_8 ?_
  refine aw_iconst (v := nI 1) dX8_isSet_9 (by decide) ?_
  refine aw_isub dX8_isSet_10 ?_
  refine aw_i2l dX8_isSet_11 ?_
  refine aw_csI (As := [_, _, _]) (d' := d - 1) dX8_isSet_12 lkX8_84 (by omega) rfl rfl (Nat.le_of_ble_eq_true rfl) ⟨Nat.le_refl _, Nat.le_refl _⟩ (tX8_in ?_)
  refine aw_toI (rg_set x hm6) ?_
  refine aw_pc (pc2 := 15) rfl ?_
  exact aw_zret dX8_isSet_15 rfl (sp_var01 _ _) hQ (Nat.zero_le _) (Nat.zero_le _)
theorem tX8_all {G : aw_G} {d : Nat} {Ω : aw_O} {I : aw_MI} {J : aw_MJ} {Q : Int32 → aw_O → aw_MI → aw_MJ → Prop} {m : Nat} (hM : aw_model Ω 65) (hm : I 65 4 = nI m) (hQ : Q (sp_all m) Ω I J) : aw_Call G MX8_all d 0 0 [.ref (aw_ad G 65)] Ω I J (aw_QI Q) := by
  refine aw_enter (by decide +kernel) rfl (Nat.le_of_ble_eq_true rfl) ?_
  show AW G MX8_all (aw_nx Ω) d 0 0 (aw_QI Q) Ω I J 0 0 [.ref (aw_ad G 65)] 0 []
  refine aw_iconst (v := nI 1) dX8_all_0 (by decide) ?_
  refine aw_aload_n dX8_all_1 rfl ?_
  refine aw_getIv (v := nI m) dX8_all_2 flX8_88 hM.o (by first | exact hm | (simp (disch := omega) only [aw_cp_off, aw_up_off, aw_wr_off, aw_fill_off, aw_fr_off]; exact hm)) ?_
  refine aw_ishl dX8_all_5 ?_
  refine aw_iconst (v := nI 1) dX8_all_6 (by decide) ?_
  refine aw_pc (pc2 := 7) rfl ?_
  refine aw_isub dX8_all_7 ?_
  exact aw_iret dX8_all_8 rfl (hQ) (Nat.zero_le _) (Nat.zero_le _)
theorem tX8_becomes {G : aw_G} {d : Nat} {Ω : aw_O} {I : aw_MI} {J : aw_MJ} {Q : Int32 → aw_O → aw_MI → aw_MJ → Prop} {k : Nat} {v : Int32} (hM : aw_model Ω 65) (hk : k < 36) (hQ : Q (I 68 k) Ω (aw_up I 68 k v) J) : aw_Call G MX8_becomes d 0 0 [.ref (aw_ad G 65), .int (nI k), .int v] Ω I J (aw_QI Q) := by
  refine aw_enter (by decide +kernel) rfl (Nat.le_of_ble_eq_true rfl) ?_
  show AW G MX8_becomes (aw_nx Ω) d 0 0 (aw_QI Q) Ω I J 0 0 [.ref (aw_ad G 65), .int (nI k), .int v, .null] 0 []
  refine aw_aload_n dX8_becomes_0 rfl ?_
  refine aw_getR dX8_becomes_1 flX8_20 hM.o hM.p5 ?_
  refine aw_iload_n dX8_becomes_4 rfl ?_
  refine aw_iald dX8_becomes_5 hM.s5 rfl (by omega) ?_
  refine aw_istore_n dX8_becomes_6 (by decide) ?_
  refine aw_lv (lv2 := [.ref _, .int _, .int _, .int _]) rfl ?_
  refine aw_pc (pc2 := 7) rfl ?_
  refine aw_aload_n dX8_becomes_7 rfl ?_
  refine aw_getR dX8_becomes_8 flX8_20 hM.o hM.p5 ?_
  refine aw_iload_n dX8_becomes_11 rfl ?_
  refine aw_iload_n dX8_becomes_12 rfl ?_
  refine aw_iast dX8_becomes_13 hM.s5 rfl (by omega) rfl ?_
  refine aw_iload_n dX8_becomes_14 rfl ?_
  refine aw_pc (pc2 := 15) rfl ?_
  exact aw_iret dX8_becomes_15 rfl (hQ) (Nat.zero_le _) (Nat.zero_le _)
def rp_row (I : aw_MI) (n l i : Nat) : Int32 := if i < n then sp_row (I 68 (6 * l)) (I 68 (6 * l + 3 + i)) else nI 0
def rp_bd (I : aw_MI) (l : Nat) (t : Int32) : Int32 := sp_bnd (I 68 (6 * l)) (I 68 (6 * l + 1) + t * I 68 (6 * l + 2))
def rp_ri (I : aw_MI) (l : Nat) : Int32 := if I 68 (6 * l) = nI 1 then -I 68 (6 * l + 2) else if I 68 (6 * l) = nI 4 then -I 68 (6 * l + 2) else I 68 (6 * l + 2)
theorem tX8_row {G : aw_G} {d : Nat} {Ω : aw_O} {I : aw_MI} {J : aw_MJ} {Q : Int32 → aw_O → aw_MI → aw_MJ → Prop} {n l i : Nat} (hM : aw_model Ω 65) (hn : I 65 0 = nI n) (hn3 : n ≤ 3) (hl : l < 6) (hi : i < 3) (hQ : Q (rp_row I n l i) Ω I J) : aw_Call G MX8_row d 0 0 [.ref (aw_ad G 65), .int (nI l), .int (nI i)] Ω I J (aw_QI Q) := by
  refine aw_enter (by decide +kernel) rfl (Nat.le_of_ble_eq_true rfl) ?_
  show AW G MX8_row (aw_nx Ω) d 0 0 (aw_QI Q) Ω I J 0 0 [.ref (aw_ad G 65), .int (nI l), .int (nI i), .null, .null] 0 []
  refine aw_aload_n dX8_row_0 rfl ?_
  refine aw_getR dX8_row_1 flX8_20 hM.o hM.p5 ?_
  refine aw_bipush (v := nI 6) dX8_row_4 (by decide) ?_
  refine aw_iload_n dX8_row_6 rfl ?_
  refine aw_imulN dX8_row_7 ?_
  refine aw_pc (pc2 := 8) rfl ?_
  refine aw_iald dX8_row_8 hM.s5 rfl (by omega) ?_
  refine aw_istore_n dX8_row_9 (by decide) ?_
  refine aw_lv (lv2 := [.ref _, .int _, .int _, .int _, .null]) rfl ?_
  refine aw_aload_n dX8_row_10 rfl ?_
  refine aw_getR dX8_row_11 flX8_20 hM.o hM.p5 ?_
  refine aw_bipush (v := nI 6) dX8_row_14 (by decide) ?_
  refine aw_iload_n dX8_row_16 rfl ?_
  refine aw_pc (pc2 := 17) rfl ?_
  refine aw_imulN dX8_row_17 ?_
  refine aw_iconst (v := nI 3) dX8_row_18 (by decide) ?_
  refine aw_iaddN dX8_row_19 ?_
  refine aw_iload_n dX8_row_20 rfl ?_
  refine aw_iaddN dX8_row_21 ?_
  refine aw_iald dX8_row_22 hM.s5 rfl (by omega) ?_
  refine aw_pc (pc2 := 23) rfl ?_
  refine aw_istore dX8_row_23 (by decide) ?_
  refine aw_lv (lv2 := [.ref _, .int _, .int _, .int _, .int _]) rfl ?_
  refine aw_iload_n dX8_row_25 rfl ?_
  refine aw_aload_n dX8_row_26 rfl ?_
  refine aw_getIv (v := nI n) dX8_row_27 flX8_7 hM.o (by first | exact hn | (simp (disch := omega) only [aw_cp_off, aw_up_off, aw_wr_off, aw_fill_off, aw_fr_off]; exact hn)) ?_
  refine aw_ltN (t := 37) dX8_row_30 (by decide) (by omega) (by omega) (fun h1 => ?_) (fun h1 => ?_)
  · skip
    refine aw_iload_n dX8_row_37 rfl ?_
    refine aw_iconst (v := nI 1) dX8_row_38 (by decide) ?_
    refine aw_icmp_eq (t := 47) dX8_row_39 (by decide) (fun h2 => ?_) (fun h2 => ?_)
    · skip
      refine aw_iload dX8_row_47 rfl ?_
      refine aw_ineg dX8_row_49 ?_
      refine aw_goto (t := 67) dX8_row_50 (by decide) ?_
      try simp only [lcmpE, lcmpL, lcmpG, lcmpLE, lcmpGT, nrm_le, nrm_le64, Classical.not_not] at h2
      exact aw_iret dX8_row_67 rfl (by rw [rp_row, if_pos h1] at hQ; first | (simp only [sp_row, if_pos h2] at hQ; exact hQ) | contradiction) (Nat.zero_le _) (Nat.zero_le _)
    · skip
      refine aw_iload_n dX8_row_42 rfl ?_
      refine aw_iconst (v := nI 4) dX8_row_43 (by decide) ?_
      refine aw_icmp_ne (t := 53) dX8_row_44 (by decide) (fun h3 => ?_) (fun h3 => ?_)
      · skip
        refine aw_iload_n dX8_row_53 rfl ?_
        refine aw_iconst (v := nI 3) dX8_row_54 (by decide) ?_
        refine aw_icmp_ne (t := 65) dX8_row_55 (by decide) (fun h4 => ?_) (fun h4 => ?_)
        · skip
          refine aw_iload dX8_row_65 rfl ?_
          try simp only [lcmpE, lcmpL, lcmpG, lcmpLE, lcmpGT, nrm_le, nrm_le64, Classical.not_not] at h2
          try simp only [lcmpE, lcmpL, lcmpG, lcmpLE, lcmpGT, nrm_le, nrm_le64, Classical.not_not] at h3
          try simp only [lcmpE, lcmpL, lcmpG, lcmpLE, lcmpGT, nrm_le, nrm_le64, Classical.not_not] at h4
          exact aw_iret dX8_row_67 rfl (by rw [rp_row, if_pos h1] at hQ; first | (simp only [sp_row, if_neg h2, if_neg h3, if_neg h4] at hQ; exact hQ) | contradiction) (Nat.zero_le _) (Nat.zero_le _)
        · skip
          refine aw_iconst (v := nI 2) dX8_row_58 (by decide) ?_
          refine aw_iload dX8_row_59 rfl ?_
          refine aw_imul dX8_row_61 ?_
          refine aw_goto (t := 67) dX8_row_62 (by decide) ?_
          try simp only [lcmpE, lcmpL, lcmpG, lcmpLE, lcmpGT, nrm_le, nrm_le64, Classical.not_not] at h2
          try simp only [lcmpE, lcmpL, lcmpG, lcmpLE, lcmpGT, nrm_le, nrm_le64, Classical.not_not] at h3
          try simp only [lcmpE, lcmpL, lcmpG, lcmpLE, lcmpGT, nrm_le, nrm_le64, Classical.not_not] at h4
          exact aw_iret dX8_row_67 rfl (by rw [rp_row, if_pos h1] at hQ; first | (simp only [sp_row, if_neg h2, if_neg h3, if_pos h4] at hQ; exact hQ) | contradiction) (Nat.zero_le _) (Nat.zero_le _)
      · skip
        refine aw_iload dX8_row_47 rfl ?_
        refine aw_ineg dX8_row_49 ?_
        refine aw_goto (t := 67) dX8_row_50 (by decide) ?_
        try simp only [lcmpE, lcmpL, lcmpG, lcmpLE, lcmpGT, nrm_le, nrm_le64, Classical.not_not] at h2
        try simp only [lcmpE, lcmpL, lcmpG, lcmpLE, lcmpGT, nrm_le, nrm_le64, Classical.not_not] at h3
        exact aw_iret dX8_row_67 rfl (by rw [rp_row, if_pos h1] at hQ; first | (simp only [sp_row, if_neg h2, if_pos h3] at hQ; exact hQ) | contradiction) (Nat.zero_le _) (Nat.zero_le _)
  · skip
    refine aw_iconst (v := nI 0) dX8_row_33 (by decide) ?_
    refine aw_goto (t := 67) dX8_row_34 (by decide) ?_
    exact aw_iret dX8_row_67 rfl (by rw [rp_row, if_neg (by omega)] at hQ; exact hQ) (Nat.zero_le _) (Nat.zero_le _)
theorem tX8_bound {G : aw_G} {d : Nat} {Ω : aw_O} {I : aw_MI} {J : aw_MJ} {Q : Int32 → aw_O → aw_MI → aw_MJ → Prop} {l : Nat} (hM : aw_model Ω 65) (hl : l < 6) (hQ : Q (rp_bd I l (I 65 3)) Ω I J) : aw_Call G MX8_bound d 0 0 [.ref (aw_ad G 65), .int (nI l)] Ω I J (aw_QI Q) := by
  refine aw_enter (by decide +kernel) rfl (Nat.le_of_ble_eq_true rfl) ?_
  show AW G MX8_bound (aw_nx Ω) d 0 0 (aw_QI Q) Ω I J 0 0 [.ref (aw_ad G 65), .int (nI l), .null, .null] 0 []
  refine aw_aload_n dX8_bound_0 rfl ?_
  refine aw_getR dX8_bound_1 flX8_20 hM.o hM.p5 ?_
  refine aw_bipush (v := nI 6) dX8_bound_4 (by decide) ?_
  refine aw_iload_n dX8_bound_6 rfl ?_
  refine aw_imulN dX8_bound_7 ?_
  refine aw_pc (pc2 := 8) rfl ?_
  refine aw_iald dX8_bound_8 hM.s5 rfl (by omega) ?_
  refine aw_istore_n dX8_bound_9 (by decide) ?_
  refine aw_lv (lv2 := [.ref _, .int _, .int _, .null]) rfl ?_
  refine aw_aload_n dX8_bound_10 rfl ?_
  refine aw_getR dX8_bound_11 flX8_20 hM.o hM.p5 ?_
  refine aw_bipush (v := nI 6) dX8_bound_14 (by decide) ?_
  refine aw_iload_n dX8_bound_16 rfl ?_
  refine aw_pc (pc2 := 17) rfl ?_
  refine aw_imulN dX8_bound_17 ?_
  refine aw_iconst (v := nI 1) dX8_bound_18 (by decide) ?_
  refine aw_iaddN dX8_bound_19 ?_
  refine aw_iald dX8_bound_20 hM.s5 rfl (by omega) ?_
  refine aw_aload_n dX8_bound_21 rfl ?_
  refine aw_getI dX8_bound_22 flX8_93 hM.o ?_
  refine aw_pc (pc2 := 25) rfl ?_
  refine aw_aload_n dX8_bound_25 rfl ?_
  refine aw_getR dX8_bound_26 flX8_20 hM.o hM.p5 ?_
  refine aw_bipush (v := nI 6) dX8_bound_29 (by decide) ?_
  refine aw_iload_n dX8_bound_31 rfl ?_
  refine aw_imulN dX8_bound_32 ?_
  refine aw_iconst (v := nI 2) dX8_bound_33 (by decide) ?_
  refine aw_pc (pc2 := 34) rfl ?_
  refine aw_iaddN dX8_bound_34 ?_
  refine aw_iald dX8_bound_35 hM.s5 rfl (by omega) ?_
  refine aw_imul dX8_bound_36 ?_
  refine aw_iadd dX8_bound_37 ?_
  refine aw_istore_n dX8_bound_38 (by decide) ?_
  refine aw_lv (lv2 := [.ref _, .int _, .int _, .int _]) rfl ?_
  refine aw_iload_n dX8_bound_39 rfl ?_
  refine aw_pc (pc2 := 40) rfl ?_
  refine aw_iconst (v := nI 1) dX8_bound_40 (by decide) ?_
  refine aw_icmp_ne (t := 49) dX8_bound_41 (by decide) (fun h1 => ?_) (fun h1 => ?_)
  · skip
    refine aw_iload_n dX8_bound_49 rfl ?_
    refine aw_iconst (v := nI 4) dX8_bound_50 (by decide) ?_
    refine aw_icmp_ne (t := 61) dX8_bound_51 (by decide) (fun h2 => ?_) (fun h2 => ?_)
    · skip
      refine aw_iload_n dX8_bound_61 rfl ?_
      try simp only [lcmpE, lcmpL, lcmpG, lcmpLE, lcmpGT, nrm_le, nrm_le64, Classical.not_not] at h1
      try simp only [lcmpE, lcmpL, lcmpG, lcmpLE, lcmpGT, nrm_le, nrm_le64, Classical.not_not] at h2
      exact aw_iret dX8_bound_62 rfl (by first | (simp only [rp_bd, sp_bnd, if_neg h1, if_neg h2] at hQ; exact hQ) | (unfold rp_bd sp_bnd at hQ; rw [if_neg h1, if_neg h2] at hQ; exact hQ) | contradiction) (Nat.zero_le _) (Nat.zero_le _)
    · skip
      refine aw_iload_n dX8_bound_54 rfl ?_
      refine aw_ineg dX8_bound_55 ?_
      refine aw_iconst (v := nI 1) dX8_bound_56 (by decide) ?_
      refine aw_isub dX8_bound_57 ?_
      refine aw_goto (t := 62) dX8_bound_58 (by decide) ?_
      try simp only [lcmpE, lcmpL, lcmpG, lcmpLE, lcmpGT, nrm_le, nrm_le64, Classical.not_not] at h1
      try simp only [lcmpE, lcmpL, lcmpG, lcmpLE, lcmpGT, nrm_le, nrm_le64, Classical.not_not] at h2
      exact aw_iret dX8_bound_62 rfl (by first | (simp only [rp_bd, sp_bnd, if_neg h1, if_pos h2] at hQ; exact hQ) | (unfold rp_bd sp_bnd at hQ; rw [if_neg h1, if_pos h2] at hQ; exact hQ) | contradiction) (Nat.zero_le _) (Nat.zero_le _)
  · skip
    refine aw_iload_n dX8_bound_44 rfl ?_
    refine aw_ineg dX8_bound_45 ?_
    refine aw_goto (t := 62) dX8_bound_46 (by decide) ?_
    try simp only [lcmpE, lcmpL, lcmpG, lcmpLE, lcmpGT, nrm_le, nrm_le64, Classical.not_not] at h1
    exact aw_iret dX8_bound_62 rfl (by first | (simp only [rp_bd, sp_bnd, if_pos h1] at hQ; exact hQ) | (unfold rp_bd sp_bnd at hQ; rw [if_pos h1] at hQ; exact hQ) | contradiction) (Nat.zero_le _) (Nat.zero_le _)
theorem tX8_rise {G : aw_G} {d : Nat} {Ω : aw_O} {I : aw_MI} {J : aw_MJ} {Q : Int32 → aw_O → aw_MI → aw_MJ → Prop} {l : Nat} (hM : aw_model Ω 65) (hl : l < 6) (hQ : Q (rp_ri I l) Ω I J) : aw_Call G MX8_rise d 0 0 [.ref (aw_ad G 65), .int (nI l)] Ω I J (aw_QI Q) := by
  refine aw_enter (by decide +kernel) rfl (Nat.le_of_ble_eq_true rfl) ?_
  show AW G MX8_rise (aw_nx Ω) d 0 0 (aw_QI Q) Ω I J 0 0 [.ref (aw_ad G 65), .int (nI l), .null] 0 []
  refine aw_aload_n dX8_rise_0 rfl ?_
  refine aw_getR dX8_rise_1 flX8_20 hM.o hM.p5 ?_
  refine aw_bipush (v := nI 6) dX8_rise_4 (by decide) ?_
  refine aw_iload_n dX8_rise_6 rfl ?_
  refine aw_imulN dX8_rise_7 ?_
  refine aw_pc (pc2 := 8) rfl ?_
  refine aw_iald dX8_rise_8 hM.s5 rfl (by omega) ?_
  refine aw_istore_n dX8_rise_9 (by decide) ?_
  refine aw_lv (lv2 := [.ref _, .int _, .int _]) rfl ?_
  refine aw_iload_n dX8_rise_10 rfl ?_
  refine aw_iconst (v := nI 1) dX8_rise_11 (by decide) ?_
  refine aw_icmp_eq (t := 20) dX8_rise_12 (by decide) (fun h1 => ?_) (fun h1 => ?_)
  · skip
    refine aw_aload_n dX8_rise_20 rfl ?_
    refine aw_getR dX8_rise_21 flX8_20 hM.o hM.p5 ?_
    refine aw_bipush (v := nI 6) dX8_rise_24 (by decide) ?_
    refine aw_iload_n dX8_rise_26 rfl ?_
    refine aw_imulN dX8_rise_27 ?_
    refine aw_pc (pc2 := 28) rfl ?_
    refine aw_iconst (v := nI 2) dX8_rise_28 (by decide) ?_
    refine aw_iaddN dX8_rise_29 ?_
    refine aw_iald dX8_rise_30 hM.s5 rfl (by omega) ?_
    refine aw_ineg dX8_rise_31 ?_
    refine aw_goto (t := 46) dX8_rise_32 (by decide) ?_
    try simp only [lcmpE, lcmpL, lcmpG, lcmpLE, lcmpGT, nrm_le, nrm_le64, Classical.not_not] at h1
    exact aw_iret dX8_rise_46 rfl (by first | (simp only [rp_ri, if_pos h1] at hQ; exact hQ) | (unfold rp_ri at hQ; rw [if_pos h1] at hQ; exact hQ) | contradiction) (Nat.zero_le _) (Nat.zero_le _)
  · skip
    refine aw_iload_n dX8_rise_15 rfl ?_
    refine aw_iconst (v := nI 4) dX8_rise_16 (by decide) ?_
    refine aw_icmp_ne (t := 35) dX8_rise_17 (by decide) (fun h2 => ?_) (fun h2 => ?_)
    · skip
      refine aw_aload_n dX8_rise_35 rfl ?_
      refine aw_getR dX8_rise_36 flX8_20 hM.o hM.p5 ?_
      refine aw_bipush (v := nI 6) dX8_rise_39 (by decide) ?_
      refine aw_iload_n dX8_rise_41 rfl ?_
      refine aw_imulN dX8_rise_42 ?_
      refine aw_pc (pc2 := 43) rfl ?_
      refine aw_iconst (v := nI 2) dX8_rise_43 (by decide) ?_
      refine aw_iaddN dX8_rise_44 ?_
      refine aw_iald dX8_rise_45 hM.s5 rfl (by omega) ?_
      try simp only [lcmpE, lcmpL, lcmpG, lcmpLE, lcmpGT, nrm_le, nrm_le64, Classical.not_not] at h1
      try simp only [lcmpE, lcmpL, lcmpG, lcmpLE, lcmpGT, nrm_le, nrm_le64, Classical.not_not] at h2
      exact aw_iret dX8_rise_46 rfl (by first | (simp only [rp_ri, if_neg h1, if_neg h2] at hQ; exact hQ) | (unfold rp_ri at hQ; rw [if_neg h1, if_neg h2] at hQ; exact hQ) | contradiction) (Nat.zero_le _) (Nat.zero_le _)
    · skip
      refine aw_aload_n dX8_rise_20 rfl ?_
      refine aw_getR dX8_rise_21 flX8_20 hM.o hM.p5 ?_
      refine aw_bipush (v := nI 6) dX8_rise_24 (by decide) ?_
      refine aw_iload_n dX8_rise_26 rfl ?_
      refine aw_imulN dX8_rise_27 ?_
      refine aw_pc (pc2 := 28) rfl ?_
      refine aw_iconst (v := nI 2) dX8_rise_28 (by decide) ?_
      refine aw_iaddN dX8_rise_29 ?_
      refine aw_iald dX8_rise_30 hM.s5 rfl (by omega) ?_
      refine aw_ineg dX8_rise_31 ?_
      refine aw_goto (t := 46) dX8_rise_32 (by decide) ?_
      try simp only [lcmpE, lcmpL, lcmpG, lcmpLE, lcmpGT, nrm_le, nrm_le64, Classical.not_not] at h1
      try simp only [lcmpE, lcmpL, lcmpG, lcmpLE, lcmpGT, nrm_le, nrm_le64, Classical.not_not] at h2
      exact aw_iret dX8_rise_46 rfl (by first | (simp only [rp_ri, if_neg h1, if_pos h2] at hQ; exact hQ) | (unfold rp_ri at hQ; rw [if_neg h1, if_pos h2] at hQ; exact hQ) | contradiction) (Nat.zero_le _) (Nat.zero_le _)
theorem tX8_isOn {G : aw_G} {d : Nat} {Ω : aw_O} {I : aw_MI} {J : aw_MJ} {Q : Int32 → aw_O → aw_MI → aw_MJ → Prop} {l : Nat} (hM : aw_model Ω 65) (hl : l < 6) (hQ : Q (sp_on (I 68 (6 * l))) Ω I J) : aw_Call G MX8_isOn d 0 0 [.ref (aw_ad G 65), .int (nI l)] Ω I J (aw_QI Q) := by
  refine aw_enter (by decide +kernel) rfl (Nat.le_of_ble_eq_true rfl) ?_
  show AW G MX8_isOn (aw_nx Ω) d 0 0 (aw_QI Q) Ω I J 0 0 [.ref (aw_ad G 65), .int (nI l)] 0 []
  refine aw_aload_n dX8_isOn_0 rfl ?_
  refine aw_getR dX8_isOn_1 flX8_20 hM.o hM.p5 ?_
  refine aw_bipush (v := nI 6) dX8_isOn_4 (by decide) ?_
  refine aw_iload_n dX8_isOn_6 rfl ?_
  refine aw_imulN dX8_isOn_7 ?_
  refine aw_pc (pc2 := 8) rfl ?_
  refine aw_iald dX8_isOn_8 hM.s5 rfl (by omega) ?_
  refine aw_iconst (v := nI 2) dX8_isOn_9 (by decide) ?_
  refine aw_icmp_ne (t := 17) dX8_isOn_10 (by decide) (fun h1 => ?_) (fun h1 => ?_)
  · skip
    refine aw_iconst (v := nI 0) dX8_isOn_17 (by decide) ?_
    try simp only [lcmpE, lcmpL, lcmpG, lcmpLE, lcmpGT, nrm_le, nrm_le64, Classical.not_not] at h1
    exact aw_zret dX8_isOn_18 rfl (by decide) (by first | (simp only [sp_on, if_neg h1] at hQ; exact hQ) | (unfold sp_on at hQ; rw [if_neg h1] at hQ; exact hQ) | contradiction) (Nat.zero_le _) (Nat.zero_le _)
  · skip
    refine aw_iconst (v := nI 1) dX8_isOn_13 (by decide) ?_
    refine aw_goto (t := 18) dX8_isOn_14 (by decide) ?_
    try simp only [lcmpE, lcmpL, lcmpG, lcmpLE, lcmpGT, nrm_le, nrm_le64, Classical.not_not] at h1
    exact aw_zret dX8_isOn_18 rfl (by decide) (by first | (simp only [sp_on, if_pos h1] at hQ; exact hQ) | (unfold sp_on at hQ; rw [if_pos h1] at hQ; exact hQ) | contradiction) (Nat.zero_le _) (Nat.zero_le _)

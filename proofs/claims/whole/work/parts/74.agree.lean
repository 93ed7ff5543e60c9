/-! AGREEMENT: class and reference over the same numbers -/
/-- the class's bowl at c and the reference's rows hold the same numbers -/
def ag (I I' : aw_MI) (c n m : Nat) : Prop := (∀ r k, r < n → k < n → I (c + 1) (r * 3 + k) = I' 66 (3 * r + k)) ∧ (∀ r, r < n → I (c + 2) r = I' 67 r) ∧ (∀ l, l < m → I (c + 3) l = I' 68 (6 * l)) ∧ (∀ l, l < m → I (c + 4) l = I' 68 (6 * l + 1)) ∧ (∀ l, l < m → I (c + 5) l = I' 68 (6 * l + 2)) ∧ (∀ l i, l < m → i < n → I (c + 6) (l * 3 + i) = I' 68 (6 * l + 3 + i))
theorem ag.q {I I' : aw_MI} {c n m : Nat} (h : ag I I' c n m) : ∀ r k, r < n → k < n → I (c + 1) (r * 3 + k) = I' 66 (3 * r + k) := h.1
theorem ag.p {I I' : aw_MI} {c n m : Nat} (h : ag I I' c n m) : ∀ r, r < n → I (c + 2) r = I' 67 r := h.2.1
theorem ag.kd {I I' : aw_MI} {c n m : Nat} (h : ag I I' c n m) : ∀ l, l < m → I (c + 3) l = I' 68 (6 * l) := h.2.2.1
theorem ag.ba {I I' : aw_MI} {c n m : Nat} (h : ag I I' c n m) : ∀ l, l < m → I (c + 4) l = I' 68 (6 * l + 1) := h.2.2.2.1
theorem ag.dr {I I' : aw_MI} {c n m : Nat} (h : ag I I' c n m) : ∀ l, l < m → I (c + 5) l = I' 68 (6 * l + 2) := h.2.2.2.2.1
theorem ag.sl {I I' : aw_MI} {c n m : Nat} (h : ag I I' c n m) : ∀ l i, l < m → i < n → I (c + 6) (l * 3 + i) = I' 68 (6 * l + 3 + i) := h.2.2.2.2.2
/-- how far the reference's numbers go -/
def rg (I : aw_MI) (n m : Nat) : Prop := (1 ≤ n) ∧ (n ≤ 3) ∧ (m ≤ 6) ∧ (∀ r k, r < n → k < n → I 66 (3 * r + k) = I 66 (3 * k + r)) ∧ (∀ r k, r < n → k < n → (I 66 (3 * r + k)).toInt.natAbs ≤ if r = k then 20 else 9) ∧ (∀ r, r < n → (I 67 r).toInt.natAbs ≤ 99) ∧ (∀ l, l < m → (I 68 (6 * l + 1)).toInt.natAbs ≤ 99) ∧ (∀ l, l < m → (I 68 (6 * l + 2)).toInt.natAbs ≤ 9) ∧ (∀ l i, l < m → i < n → (I 68 (6 * l + 3 + i)).toInt.natAbs ≤ 9)
theorem rg.n1 {I : aw_MI} {n m : Nat} (h : rg I n m) : 1 ≤ n := h.1
theorem rg.n3 {I : aw_MI} {n m : Nat} (h : rg I n m) : n ≤ 3 := h.2.1
theorem rg.m6 {I : aw_MI} {n m : Nat} (h : rg I n m) : m ≤ 6 := h.2.2.1
theorem rg.sy {I : aw_MI} {n m : Nat} (h : rg I n m) : ∀ r k, r < n → k < n → I 66 (3 * r + k) = I 66 (3 * k + r) := h.2.2.2.1
theorem rg.q {I : aw_MI} {n m : Nat} (h : rg I n m) : ∀ r k, r < n → k < n → (I 66 (3 * r + k)).toInt.natAbs ≤ if r = k then 20 else 9 := h.2.2.2.2.1
theorem rg.p {I : aw_MI} {n m : Nat} (h : rg I n m) : ∀ r, r < n → (I 67 r).toInt.natAbs ≤ 99 := h.2.2.2.2.2.1
theorem rg.ba {I : aw_MI} {n m : Nat} (h : rg I n m) : ∀ l, l < m → (I 68 (6 * l + 1)).toInt.natAbs ≤ 99 := h.2.2.2.2.2.2.1
theorem rg.dr {I : aw_MI} {n m : Nat} (h : rg I n m) : ∀ l, l < m → (I 68 (6 * l + 2)).toInt.natAbs ≤ 9 := h.2.2.2.2.2.2.2.1
theorem rg.sl {I : aw_MI} {n m : Nat} (h : rg I n m) : ∀ l i, l < m → i < n → (I 68 (6 * l + 3 + i)).toInt.natAbs ≤ 9 := h.2.2.2.2.2.2.2.2
theorem o32 {a : Int} (h : a.natAbs < 2 ^ 31) : (Int32.ofInt a).toInt = a := Int32.toInt_ofInt_of_le (by omega) (by omega)
theorem neg32 {x : Int32} (h : x.toInt.natAbs < 2 ^ 31) : (-x).toInt = -x.toInt := by
  have e : -x = Int32.ofInt (-x.toInt) := by rw [Int32.ofInt_neg, Int32.ofInt_toInt]
  rw [e, o32 (by omega)]
theorem sub1_32 {x : Int32} (h : x.toInt.natAbs < 2 ^ 30) : (-x - nI 1).toInt = -x.toInt - 1 := by
  have e : -x - nI 1 = Int32.ofInt (-x.toInt - 1) := by rw [Int32.ofInt_sub, Int32.ofInt_neg, Int32.ofInt_toInt]; rfl
  rw [e, o32 (by omega)]
theorem two32 {x : Int32} (h : x.toInt.natAbs < 2 ^ 29) : (nI 2 * x).toInt = 2 * x.toInt := by
  have e : nI 2 * x = Int32.ofInt (2 * x.toInt) := by rw [Int32.ofInt_mul, Int32.ofInt_toInt]; rfl
  rw [e, o32 (by omega)]
theorem td32 {b d : Int32} {t : Nat} (hb : b.toInt.natAbs ≤ 99) (hd : d.toInt.natAbs ≤ 9) (ht : t ≤ 40) : (b + nI t * d).toInt = b.toInt + t * d.toInt ∧ ((t : Int) * d.toInt).natAbs ≤ 9 * t := by
  have e : b + nI t * d = Int32.ofInt (b.toInt + t * d.toInt) := by
    rw [Int32.ofInt_add, Int32.ofInt_toInt, Int32.ofInt_mul, Int32.ofInt_toInt]
    rfl
  have h1 : ((t : Int) * d.toInt).natAbs ≤ 9 * t := by
    rw [Int.natAbs_mul, Int.natAbs_natCast, Nat.mul_comm]
    exact Nat.mul_le_mul_right _ hd
  refine ⟨?_, h1⟩
  rw [e, o32 (by omega)]
theorem t64 (x : Int32) : x.toInt64 = Int64.ofInt x.toInt := by
  rw [← Int32.toInt_toInt64, Int64.ofInt_toInt]
theorem rg.row {I' : aw_MI} {n m : Nat} (h : rg I' n m) {l i : Nat} (hl : l < m) (hi : i < n) : (rp_row I' n l i).toInt.natAbs ≤ 18 := by
  have h1 := h.sl l i hl hi
  unfold rp_row sp_row
  rw [if_pos hi]
  split
  · rw [neg32 (by omega)]; omega
  · split
    · rw [neg32 (by omega)]; omega
    · split
      · rw [two32 (by omega)]; omega
      · omega
theorem rg.bd {I' : aw_MI} {n m : Nat} (h : rg I' n m) {l t : Nat} (hl : l < m) (ht : t ≤ 40) : (rp_bd I' l (nI t)).toInt = (rp_bd I' l (nI 0)).toInt + t * (rp_ri I' l).toInt ∧ (rp_bd I' l (nI t)).toInt.natAbs ≤ 100 + 9 * t ∧ (rp_ri I' l).toInt.natAbs ≤ 9 := by
  have hb := h.ba l hl
  have hdr := h.dr l hl
  have e1 := td32 hb hdr ht
  have e0 := td32 hb hdr (t := 0) (by omega)
  unfold rp_bd sp_bnd rp_ri
  generalize I' 68 (6 * l + 1) = b at *
  generalize I' 68 (6 * l + 2) = d at *
  generalize ha : b + nI t * d = x at *
  generalize ha0 : b + nI 0 * d = x0 at *
  split
  · rw [neg32 (by omega), neg32 (by omega), neg32 (by omega), Int.mul_neg]; omega
  · split
    · rw [sub1_32 (by omega), sub1_32 (by omega), neg32 (by omega), Int.mul_neg]; omega
    · omega
theorem sp_dft_ri {kd b d : Int32} : sp_bnd kd (b + nI 1 * d) - sp_bnd kd (b + nI 0 * d) = if kd = nI 1 then -d else if kd = nI 4 then -d else d := by
  have e1 : nI 1 * d = d := Int32.one_mul d
  have e0 : nI 0 * d = 0 := Int32.zero_mul
  rw [e1, e0]
  unfold sp_bnd
  split
  · grind
  · split
    · grind
    · grind
theorem ag.rw {I I' : aw_MI} {c n m : Nat} (h : ag I I' c n m) {l i : Nat} (hl : l < m) (hi : i < n) : sp_rw I c l i = rp_row I' n l i := by
  unfold sp_rw rp_row
  rw [h.kd l hl, h.sl l i hl hi, if_pos hi]
theorem ag.bd {I I' : aw_MI} {c n m : Nat} (h : ag I I' c n m) {l : Nat} (hl : l < m) (t : Int32) : sp_bd I c l t = rp_bd I' l t := by
  unfold sp_bd rp_bd
  rw [h.kd l hl, h.ba l hl, h.dr l hl]
theorem ag.dft {I I' : aw_MI} {c n m : Nat} (h : ag I I' c n m) {l : Nat} (hl : l < m) : sp_dft I c l = rp_ri I' l := by
  unfold sp_dft
  rw [h.bd hl, h.bd hl]
  exact sp_dft_ri
/-- columns with both right sides behind -/
def rc_C (I : aw_MI) (n m S : Nat) (k : Nat) : Nat → Int := if k < n + cx_n S m then rm_c I n (cx_mb S m) k else if k = n + cx_n S m then rm_b I n (cx_mb S m) (nI 0) else rm_u I n (cx_mb S m)
theorem ag.M {I I' : aw_MI} {c n m : Nat} (h : ag I I' c n m) {S : Nat} : ∀ r k, r < n + cx_n S m → k < n + cx_n S m + 2 → cx_M I c n m S r k = Int64.ofInt (rc_C I' n m S k r) := by
  intro r k hr hk
  have hmb : ∀ j, j < cx_n S m → cx_mb S m j < m := fun j hj => sp_mb_lt hj
  unfold cx_M sp_mat rc_C
  by_cases e1 : r < n
  · rw [if_pos e1]
    by_cases e2 : k < n
    · rw [if_pos e2, if_pos (by omega), h.q r k e1 e2, t64]
      unfold rm_c
      rw [if_pos ⟨e1, e2⟩]
    · rw [if_neg e2]
      by_cases e3 : k < n + cx_n S m
      · rw [if_pos e3, if_pos e3, h.rw (hmb _ (by omega)) e1, t64]
        unfold rm_c
        rw [if_neg (fun q => e2 q.2), if_pos e1]
      · rw [if_neg e3, if_neg e3]
        by_cases e4 : k = n + cx_n S m
        · rw [if_pos e4, if_pos e4, h.p r e1, t64]
          unfold rm_b
          rw [if_pos e1]
        · rw [if_neg e4, if_neg e4]
          unfold rm_u
          rw [if_pos e1]
          rfl
  · rw [if_neg e1]
    by_cases e2 : k < n
    · rw [if_pos e2, if_pos (by omega), h.rw (hmb _ (by omega)) e2, t64]
      unfold rm_c
      rw [if_neg (fun q => e1 q.1), if_neg e1, if_pos e2]
    · rw [if_neg e2]
      by_cases e3 : k < n + cx_n S m
      · rw [if_neg (by omega), if_neg (by omega), if_pos e3]
        unfold rm_c
        rw [if_neg (fun q => e1 q.1), if_neg e1, if_neg e2]
        rfl
      · rw [if_neg e3]
        by_cases e4 : k = n + cx_n S m
        · rw [if_pos e4, if_pos e4, h.bd (hmb _ (by omega)), t64]
          unfold rm_b
          rw [if_neg e1]
        · rw [if_neg e4, if_neg e4, if_pos (by omega), h.dft (hmb _ (by omega)), t64]
          unfold rm_u
          rw [if_neg e1]
theorem rg.C {I' : aw_MI} {n m : Nat} (h : rg I' n m) {S : Nat} (hS : cx_n S m ≤ n) : ∀ j r, j < n + cx_n S m + 2 → r < n + cx_n S m → (rc_C I' n m S j r).natAbs ≤ bz n (if j < n + cx_n S m then j else 2 * n) r := by
  intro j r hj hr
  have hmb : ∀ j, j < cx_n S m → cx_mb S m j < m := fun j hj => sp_mb_lt hj
  unfold rc_C
  by_cases e1 : j < n + cx_n S m
  · rw [if_pos e1, if_pos e1]
    unfold rm_c bz
    by_cases e2 : r < n
    · by_cases e3 : j < n
      · rw [if_pos ⟨e2, e3⟩, if_pos e3, if_pos e2]
        exact h.q r j e2 e3
      · rw [if_neg (fun q => e3 q.2), if_pos e2, if_neg e3, if_pos (by omega), if_pos e2]
        exact h.row (hmb _ (by omega)) e2
    · rw [if_neg (fun q => e2 q.1), if_neg e2]
      by_cases e3 : j < n
      · rw [if_pos e3, if_pos e3, if_neg e2]
        exact h.row (hmb _ (by omega)) e3
      · rw [if_neg e3]
        exact Nat.zero_le _
  · rw [if_neg e1, if_neg e1]
    have e5 : bz n (2 * n) r = 100 := by
      unfold bz
      have := h.n1
      rw [if_neg (by omega), if_neg (by omega)]
    rw [e5]
    by_cases e4 : j = n + cx_n S m
    · rw [if_pos e4]
      unfold rm_b
      by_cases e2 : r < n
      · rw [if_pos e2]
        have h1 := h.p r e2
        rw [neg32 (by omega)]; omega
      · rw [if_neg e2]
        have h1 := (h.bd (hmb (r - n) (by omega)) (t := 0) (by omega)).2.1
        omega
    · rw [if_neg e4]
      unfold rm_u
      by_cases e2 : r < n
      · rw [if_pos e2]
        exact Nat.zero_le _
      · rw [if_neg e2]
        have h1 := (h.bd (hmb (r - n) (by omega)) (t := 0) (by omega)).2.2
        omega

/-! THE NUMBERS THEMSELVES, whole and without wrap-around -/
theorem bz_x : ∀ n, n < 4 → ∀ w, w ≤ 2 * n → ∀ r, r < w → dt_ps w (fun j i => if j = r then 460 else bz n j i) < 2 ^ 40 := by decide +kernel
def ex_D (I : aw_MI) (n m S : Nat) : Int := dt (n + cx_n S m) (rm_c I n (cx_mb S m))
def ex_g (I : aw_MI) (n m S : Nat) : Int := if ex_D I n m S < 0 then -1 else 1
def ex_x (I : aw_MI) (n m S t : Nat) (c : Nat) : Int := ex_g I n m S * dt (n + cx_n S m) (dt_rp (rm_c I n (cx_mb S m)) c (rm_b I n (cx_mb S m) (nI t)))
def ex_u (I : aw_MI) (n m S : Nat) (c : Nat) : Int := ex_g I n m S * dt (n + cx_n S m) (dt_rp (rm_c I n (cx_mb S m)) c (rm_u I n (cx_mb S m)))
def ex_b (I : aw_MI) (n m S : Nat) : Int := ((ex_D I n m S).natAbs : Int)
theorem ex_gb (I : aw_MI) (n m S : Nat) : ex_g I n m S * ex_D I n m S = ex_b I n m S := by
  unfold ex_g ex_b
  split <;> omega
theorem ex_g1 (I : aw_MI) (n m S : Nat) (a : Int) : (ex_g I n m S * a).natAbs = a.natAbs := by
  unfold ex_g
  split <;> omega
theorem rg.dI {I' : aw_MI} {n m : Nat} (h : rg I' n m) {S : Nat} (hS : cx_n S m ≤ n) : (rx_d I' n m S).toInt = ex_D I' n m S ∧ (ex_D I' n m S).natAbs < 2 ^ 31 := by
  have h1 := h.Dw hS (Nat.le_refl _)
  exact ⟨ofI_t (by omega), h1⟩
theorem lt0_64 (x : Int64) : x < 0 ↔ x.toInt < 0 := by
  rw [Int64.lt_iff_toInt_lt]
  rfl
theorem eq0_64 (x : Int64) : x = 0 ↔ x.toInt = 0 := by
  constructor
  · intro h; rw [h]; rfl
  · intro h; exact Int64.toInt_inj.mp h
theorem neg_64 {x : Int64} (h : x.toInt.natAbs < 2 ^ 63) : (-x).toInt = -x.toInt := by
  have e : -x = Int64.ofInt (-x.toInt) := by rw [Int64.ofInt_neg, Int64.ofInt_toInt]
  rw [e, ofI_t (by omega)]
theorem rg.bI {I' : aw_MI} {n m : Nat} (h : rg I' n m) {S : Nat} (hS : cx_n S m ≤ n) : (rx_b I' n m S).toInt = ex_b I' n m S ∧ ex_b I' n m S < 2 ^ 31 := by
  obtain ⟨h1, h2⟩ := h.dI hS
  refine ⟨?_, by unfold ex_b; omega⟩
  unfold rx_b sp_abs ex_b
  by_cases e : rx_d I' n m S < 0
  · rw [if_pos e, neg_64 (by omega), h1]
    rw [lt0_64, h1] at e
    omega
  · rw [if_neg e, h1]
    rw [lt0_64, h1] at e
    omega
theorem rg.b0 {I' : aw_MI} {n m : Nat} (h : rg I' n m) {S : Nat} (ho : rx_ok I' n m S) : 0 < ex_b I' n m S ∧ ex_D I' n m S ≠ 0 := by
  have h1 : ex_D I' n m S ≠ 0 := fun e => ho.2 (by rw [eq0_64, (h.dI ho.1).1]; exact e)
  exact ⟨by unfold ex_b; omega, h1⟩
theorem te_ex {I' : aw_MI} {n m : Nat} (h : rg I' n m) {S : Nat} (hS : cx_n S m ≤ n) (v : Nat → Int) (c : Nat) : te_f (rm_c I' n (cx_mb S m)) v (n + cx_n S m) (rx_s I' n m S) c = Int64.ofInt (ex_g I' n m S * dt (n + cx_n S m) (dt_rp (rm_c I' n (cx_mb S m)) c v)) := by
  unfold te_f te_t rx_s ex_g
  have e1 : rx_d I' n m S < 0 ↔ ex_D I' n m S < 0 := by rw [lt0_64, (h.dI hS).1]
  by_cases e : ex_D I' n m S < 0
  · rw [if_pos (e1.mpr e), if_pos e, if_neg (by decide), ← Int64.ofInt_neg]
    congr 1
    omega
  · rw [if_neg (mt e1.mp e), if_neg e, if_pos (by rfl)]
    congr 1
    omega
theorem rg.Cw {I' : aw_MI} {n m : Nat} (h : rg I' n m) {S : Nat} (hS : cx_n S m ≤ n) : ∀ j r, j < n + cx_n S m → r < n + cx_n S m → (rm_c I' n (cx_mb S m) j r).natAbs ≤ bz n j r := by
  intro j r hj hr
  have h1 := h.C hS j r (by omega) hr
  unfold rc_C at h1
  rwa [if_pos hj, if_pos hj] at h1
theorem rg.xB {I' : aw_MI} {n m : Nat} (h : rg I' n m) {S : Nat} (hS : cx_n S m ≤ n) {v : Nat → Int} (hv : ∀ r, r < n + cx_n S m → (v r).natAbs ≤ 460) {c : Nat} (hc : c < n + cx_n S m) : (ex_g I' n m S * dt (n + cx_n S m) (dt_rp (rm_c I' n (cx_mb S m)) c v)).natAbs < 2 ^ 40 := by
  rw [ex_g1]
  refine Nat.lt_of_le_of_lt (dt_bs (fun j r hj hr => ?_)) (bz_x n (by have := h.n3; omega) (n + cx_n S m) (by omega) c hc)
  unfold dt_rp
  by_cases e : j = c
  · rw [if_pos e, if_pos e]; exact hv r hr
  · rw [if_neg e, if_neg e]; exact h.Cw hS j r hj hr
theorem rg.b460 {I' : aw_MI} {n m : Nat} (h : rg I' n m) {S t : Nat} (ht : t ≤ 40) : ∀ r, r < n + cx_n S m → (rm_b I' n (cx_mb S m) (nI t) r).natAbs ≤ 460 := by
  intro r hr
  unfold rm_b
  by_cases e : r < n
  · rw [if_pos e]
    have h1 := h.p r e
    rw [neg32 (by omega)]; omega
  · rw [if_neg e]
    have hl : cx_mb S m (r - n) < m := sp_mb_lt (show r - n < (sp_mb (nI S) m).length by unfold cx_n at hr; omega)
    have h1 := (h.bd hl ht).2.1
    omega
theorem rg.u9 {I' : aw_MI} {n m : Nat} (h : rg I' n m) {S : Nat} : ∀ r, r < n + cx_n S m → (rm_u I' n (cx_mb S m) r).natAbs ≤ 460 := by
  intro r hr
  unfold rm_u
  by_cases e : r < n
  · rw [if_pos e]; decide
  · rw [if_neg e]
    have hl : cx_mb S m (r - n) < m := sp_mb_lt (show r - n < (sp_mb (nI S) m).length by unfold cx_n at hr; omega)
    have h1 := (h.bd hl (t := 0) (by omega)).2.2
    omega
theorem rg.vI {I' : aw_MI} {n m : Nat} (h : rg I' n m) {S t : Nat} (hS : cx_n S m ≤ n) (ht : t ≤ 40) {c : Nat} (hc : c < n + cx_n S m) : (rx_v I' n m S (nI t) c).toInt = ex_x I' n m S t c ∧ (ex_x I' n m S t c).natAbs < 2 ^ 40 := by
  have h1 := h.xB hS (h.b460 ht) hc
  refine ⟨?_, h1⟩
  unfold rx_v
  rw [te_ex h hS, ofI_t (by omega)]
  rfl
theorem rg.uI {I' : aw_MI} {n m : Nat} (h : rg I' n m) {S : Nat} (hS : cx_n S m ≤ n) {c : Nat} (hc : c < n + cx_n S m) : (rx_u I' n m S c).toInt = ex_u I' n m S c ∧ (ex_u I' n m S c).natAbs < 2 ^ 40 := by
  have h1 := h.xB hS h.u9 hc
  refine ⟨?_, h1⟩
  unfold rx_u
  rw [te_ex h hS, ofI_t (by omega)]
  rfl
/-- a weight, by line -/
def ex_wt (mb : Nat → Nat) (f : Nat → Int) : Nat → Nat → Int
  | 0, _ => 0
  | j + 1, l => if l = mb j then f j else ex_wt mb f j l
theorem wt_I {mb : Nat → Nat} {f : Nat → Int64} {g : Nat → Int} {l : Nat} : ∀ {k : Nat}, (∀ j, j < k → (f j).toInt = g j ∧ (g j).natAbs < 2 ^ 40) → (sp_wt mb f k l).toInt = ex_wt mb g k l ∧ (ex_wt mb g k l).natAbs < 2 ^ 40
  | 0, _ => ⟨rfl, by show (0 : Int).natAbs < 2 ^ 40; decide⟩
  | k + 1, h => by
    unfold sp_wt ex_wt
    by_cases e : l = mb k
    · rw [if_pos e, if_pos e]; exact h k (by omega)
    · rw [if_neg e, if_neg e]; exact wt_I (fun j hj => h j (by omega))
def ex_y (I : aw_MI) (n m S t l : Nat) : Int := ex_wt (cx_mb S m) (fun j => ex_x I n m S t (n + j)) (cx_n S m) l
def ex_z (I : aw_MI) (n m S l : Nat) : Int := ex_wt (cx_mb S m) (fun j => ex_u I n m S (n + j)) (cx_n S m) l
theorem rg.yI {I' : aw_MI} {n m : Nat} (h : rg I' n m) {S t : Nat} (hS : cx_n S m ≤ n) (ht : t ≤ 40) (l : Nat) : (rx_y I' n m S (nI t) l).toInt = ex_y I' n m S t l ∧ (ex_y I' n m S t l).natAbs < 2 ^ 40 :=
  wt_I (fun j hj => h.vI hS ht (by omega))
theorem rg.zI {I' : aw_MI} {n m : Nat} (h : rg I' n m) {S : Nat} (hS : cx_n S m ≤ n) (l : Nat) : (rx_z I' n m S l).toInt = ex_z I' n m S l ∧ (ex_z I' n m S l).natAbs < 2 ^ 40 :=
  wt_I (fun j hj => h.uI hS (by omega))
theorem left_I {bd : Int32} {bl : Int64} {row : Nat → Int32} {x : Nat → Int64} : ∀ n, sp_left bd bl row x n = Int64.ofInt (bd.toInt * bl.toInt - dt_sm (fun i => (row i).toInt * (x i).toInt) n)
  | 0 => by
    show bd.toInt64 * bl = Int64.ofInt (bd.toInt * bl.toInt - 0)
    rw [Int.sub_zero, Int64.ofInt_mul, Int64.ofInt_toInt, t64]
  | n + 1 => by
    show sp_left bd bl row x n - (row n).toInt64 * x n = Int64.ofInt (bd.toInt * bl.toInt - (dt_sm (fun i => (row i).toInt * (x i).toInt) n + (row n).toInt * (x n).toInt))
    rw [left_I n, t64, show ∀ a b c : Int, a - (b + c) = a - b - c from fun a b c => by omega, Int64.ofInt_sub _ ((row n).toInt * (x n).toInt), Int64.ofInt_mul (row n).toInt, Int64.ofInt_toInt]
theorem mul_ab {a b : Int} {A B : Nat} (ha : a.natAbs ≤ A) (hb : b.natAbs ≤ B) : (a * b).natAbs ≤ A * B := by
  rw [Int.natAbs_mul]
  exact Nat.mul_le_mul ha hb
theorem sm_ab {f : Nat → Int} {B : Nat} : ∀ {n : Nat}, (∀ i, i < n → (f i).natAbs ≤ B) → (dt_sm f n).natAbs ≤ n * B
  | 0, _ => by
    show (0 : Int).natAbs ≤ _
    simp
  | n + 1, h => by
    show (dt_sm f n + f n).natAbs ≤ (n + 1) * B
    have h1 := sm_ab (f := f) (n := n) (fun i hi => h i (by omega))
    have h2 := h n (by omega)
    rw [Nat.add_mul, Nat.one_mul]
    omega
def ex_s (I : aw_MI) (n m S t l : Nat) : Int := (rp_bd I l (nI t)).toInt * ex_b I n m S - dt_sm (fun i => (rp_row I n l i).toInt * ex_x I n m S t i) n
theorem rg.slI {I' : aw_MI} {n m : Nat} (h : rg I' n m) {S t : Nat} (hS : cx_n S m ≤ n) (ht : t ≤ 40) {l : Nat} (hl : l < m) : (rx_sl I' n m S (nI t) l).toInt = ex_s I' n m S t l ∧ (ex_s I' n m S t l).natAbs < 2 ^ 50 := by
  have n3 := h.n3
  have hb := h.bI hS
  have h1 : (ex_s I' n m S t l).natAbs < 2 ^ 50 := by
    have b1 : ((rp_bd I' l (nI t)).toInt * ex_b I' n m S).natAbs ≤ 460 * 2 ^ 31 := by
      refine mul_ab ?_ ?_
      · have := (h.bd hl ht).2.1
        omega
      · have := hb.2
        have h0 : 0 ≤ ex_b I' n m S := by unfold ex_b; omega
        omega
    have b2 : (dt_sm (fun i => (rp_row I' n l i).toInt * ex_x I' n m S t i) n).natAbs ≤ n * (18 * 2 ^ 40) := by
      refine sm_ab (fun i hi => mul_ab (h.row hl hi) ?_)
      have := (h.vI hS ht (c := i) (by omega)).2
      omega
    have b3 : n * (18 * 2 ^ 40) ≤ 3 * (18 * 2 ^ 40) := Nat.mul_le_mul_right _ n3
    unfold ex_s
    omega
  refine ⟨?_, h1⟩
  unfold rx_sl
  rw [left_I, hb.1]
  have e : dt_sm (fun i => (rp_row I' n l i).toInt * (rx_v I' n m S (nI t) i).toInt) n = dt_sm (fun i => (rp_row I' n l i).toInt * ex_x I' n m S t i) n := by
    refine dt_sm_c (fun i hi => ?_)
    show _ * (rx_v I' n m S (nI t) i).toInt = _
    rw [(h.vI hS ht (by omega)).1]
  rw [e]
  exact ofI_t (by show (ex_s I' n m S t l).natAbs < _; omega)
/-- how a slack moves with the tide -/
def ex_m (I : aw_MI) (n m S l : Nat) : Int := (rp_ri I l).toInt * ex_b I n m S - dt_sm (fun i => (rp_row I n l i).toInt * ex_u I n m S i) n
theorem rg.mvI {I' : aw_MI} {n m : Nat} (h : rg I' n m) {S : Nat} (hS : cx_n S m ≤ n) {l : Nat} (hl : l < m) : (rx_mv I' n m S l).toInt = ex_m I' n m S l ∧ (ex_m I' n m S l).natAbs < 2 ^ 50 := by
  have n3 := h.n3
  have hb := h.bI hS
  have h1 : (ex_m I' n m S l).natAbs < 2 ^ 50 := by
    have b1 : ((rp_ri I' l).toInt * ex_b I' n m S).natAbs ≤ 9 * 2 ^ 31 := by
      refine mul_ab ?_ ?_
      · exact (h.bd hl (t := 0) (by omega)).2.2
      · have := hb.2
        have h0 : 0 ≤ ex_b I' n m S := by unfold ex_b; omega
        omega
    have b2 : (dt_sm (fun i => (rp_row I' n l i).toInt * ex_u I' n m S i) n).natAbs ≤ n * (18 * 2 ^ 40) := by
      refine sm_ab (fun i hi => mul_ab (h.row hl hi) ?_)
      have := (h.uI hS (c := i) (by omega)).2
      omega
    have b3 : n * (18 * 2 ^ 40) ≤ 3 * (18 * 2 ^ 40) := Nat.mul_le_mul_right _ n3
    unfold ex_m
    omega
  refine ⟨?_, h1⟩
  unfold rx_mv
  rw [left_I, hb.1]
  have e : dt_sm (fun i => (rp_row I' n l i).toInt * (rx_u I' n m S i).toInt) n = dt_sm (fun i => (rp_row I' n l i).toInt * ex_u I' n m S i) n := by
    refine dt_sm_c (fun i hi => ?_)
    show _ * (rx_u I' n m S i).toInt = _
    rw [(h.uI hS (by omega)).1]
  rw [e]
  exact ofI_t (by show (ex_m I' n m S l).natAbs < _; omega)
theorem w1_I {p : Nat → Int32} {x : Nat → Int64} : ∀ n, sp_w1 p x n = Int64.ofInt (dt_sm (fun i => (p i).toInt * (x i).toInt) n)
  | 0 => rfl
  | n + 1 => by
    show sp_w1 p x n + (p n).toInt64 * x n = Int64.ofInt (dt_sm (fun i => (p i).toInt * (x i).toInt) n + (p n).toInt * (x n).toInt)
    rw [w1_I n, t64, Int64.ofInt_add, Int64.ofInt_mul (p n).toInt, Int64.ofInt_toInt]
theorem w2_I {a : Int64} {b : Nat → Int32} {y : Nat → Int64} : ∀ m, sp_w2 a b y m = Int64.ofInt (a.toInt - dt_sm (fun l => (b l).toInt * (y l).toInt) m)
  | 0 => by
    show a = Int64.ofInt (a.toInt - 0)
    rw [Int.sub_zero, Int64.ofInt_toInt]
  | m + 1 => by
    show sp_w2 a b y m - (b m).toInt64 * y m = Int64.ofInt (a.toInt - (dt_sm (fun l => (b l).toInt * (y l).toInt) m + (b m).toInt * (y m).toInt))
    rw [w2_I m, t64, show ∀ a b c : Int, a - (b + c) = a - b - c from fun a b c => by omega, Int64.ofInt_sub _ ((b m).toInt * (y m).toInt), Int64.ofInt_mul (b m).toInt, Int64.ofInt_toInt]
/-- twice the worth, over ex_b -/
def ex_w (I : aw_MI) (n m S t : Nat) : Int := dt_sm (fun i => (I 67 i).toInt * ex_x I n m S t i) n - dt_sm (fun l => (rp_bd I l (nI t)).toInt * ex_y I n m S t l) m
theorem rg.woI {I' : aw_MI} {n m : Nat} (h : rg I' n m) {S t : Nat} (hS : cx_n S m ≤ n) (ht : t ≤ 40) : (rx_wo I' n m S (nI t)).toInt = ex_w I' n m S t ∧ (ex_w I' n m S t).natAbs < 2 ^ 53 := by
  have n3 := h.n3
  have m6 := h.m6
  have b1 : (dt_sm (fun i => (I' 67 i).toInt * ex_x I' n m S t i) n).natAbs ≤ n * (99 * 2 ^ 40) := by
    refine sm_ab (fun i hi => mul_ab (h.p i hi) ?_)
    have := (h.vI hS ht (c := i) (by omega)).2
    omega
  have b2 : n * (99 * 2 ^ 40) ≤ 3 * (99 * 2 ^ 40) := Nat.mul_le_mul_right _ n3
  have b3 : (dt_sm (fun l => (rp_bd I' l (nI t)).toInt * ex_y I' n m S t l) m).natAbs ≤ m * (460 * 2 ^ 40) := by
    refine sm_ab (fun l hl => mul_ab ?_ ?_)
    · have := (h.bd hl ht).2.1
      omega
    · have := (h.yI hS ht l).2
      omega
  have b4 : m * (460 * 2 ^ 40) ≤ 6 * (460 * 2 ^ 40) := Nat.mul_le_mul_right _ m6
  have h1 : (ex_w I' n m S t).natAbs < 2 ^ 53 := by
    unfold ex_w
    omega
  refine ⟨?_, h1⟩
  unfold rx_wo
  have e1 : dt_sm (fun i => (I' 67 i).toInt * (rx_v I' n m S (nI t) i).toInt) n = dt_sm (fun i => (I' 67 i).toInt * ex_x I' n m S t i) n := by
    refine dt_sm_c (fun i hi => ?_)
    show _ * (rx_v I' n m S (nI t) i).toInt = _
    rw [(h.vI hS ht (by omega)).1]
  have e2 : dt_sm (fun l => (rp_bd I' l (nI t)).toInt * (rx_y I' n m S (nI t) l).toInt) m = dt_sm (fun l => (rp_bd I' l (nI t)).toInt * ex_y I' n m S t l) m := by
    refine dt_sm_c (fun l hl => ?_)
    show _ * (rx_y I' n m S (nI t) l).toInt = _
    rw [(h.yI hS ht l).1]
  rw [w2_I, w1_I, e1, e2, ofI_t (a := dt_sm (fun i => (I' 67 i).toInt * ex_x I' n m S t i) n) (by omega)]
  exact ofI_t (by show (ex_w I' n m S t).natAbs < _; omega)
/-- a fraction's lowest terms, told in the two ways -/
theorem told_lw {a b : Int64} {pt : Int32} (ha : a.toInt.natAbs < 2 ^ 63) (hb : 0 < b.toInt) : sp_told a b pt = lw_v a b pt := by
  have e63 : Int64.minValue.toInt = -2 ^ 63 := rfl
  have la := Int64.le_toInt a
  have lb := Int64.toInt_lt b
  have na : ¬ a = Int64.minValue := fun e => by rw [e, e63] at ha; omega
  have nb : ¬ b = Int64.minValue := fun e => by rw [e, e63] at hb; omega
  have h1 : (sp_sh b a).toInt = Nat.gcd b.toInt.natAbs a.toInt.natAbs := sh64 nb na
  have h2 : (sp_gcd b.toInt.natAbs (sp_abs a) b).toInt = Nat.gcd a.toInt.natAbs b.toInt.natAbs := by
    rw [gcd64 (sp_gt_all _ _ _ (Nat.le_refl _)) (by rw [abs64 na]; omega) (by omega), abs64 na]
    rfl
  have h3 : sp_sh b a = sp_gcd b.toInt.natAbs (sp_abs a) b := Int64.toInt_inj.mp (by rw [h1, h2, Nat.gcd_comm])
  have h4 : ¬ sp_sh b a = 0 := by
    rw [eq0_64, h1]
    have : 0 < Nat.gcd b.toInt.natAbs a.toInt.natAbs := Nat.gcd_pos_of_pos_left _ (by omega)
    omega
  unfold sp_told lw_v sp_low
  rw [if_neg h4, h3]

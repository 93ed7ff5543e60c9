/-! THE WALK ENDS: what an answer is worth grows -/
def bl (C : Nat → Nat → Int) (u v : Nat → Int) (n : Nat) : Int := dt_sm (fun r => u r * dt_sm (fun j => C j r * v j) n) n
theorem bl_l (C : Nat → Nat → Int) (a b : Int) (u v w : Nat → Int) (n : Nat) : bl C (fun i => a * u i - b * v i) w n = a * bl C u w n - b * bl C v w n := by
  unfold bl
  have h := dt_sm_lin a (-b) (fun r => u r * dt_sm (fun j => C j r * w j) n) (fun r => v r * dt_sm (fun j => C j r * w j) n) n
  have e : ∀ x y : Int, a * x - b * y = a * x + -b * y := fun x y => by rw [Int.neg_mul]; omega
  rw [e, ← h]
  refine dt_sm_c (fun r _ => ?_)
  show (a * u r - b * v r) * dt_sm (fun j => C j r * w j) n = a * (u r * dt_sm (fun j => C j r * w j) n) + -b * (v r * dt_sm (fun j => C j r * w j) n)
  grind
theorem bl_sy {C : Nat → Nat → Int} {u v : Nat → Int} {n : Nat} (sy : ∀ j r, j < n → r < n → C j r = C r j) : bl C u v n = bl C v u n := by
  unfold bl
  have e1 : dt_sm (fun r => u r * dt_sm (fun j => C j r * v j) n) n = dt_sm (fun r => dt_sm (fun j => u r * (C j r * v j)) n) n :=
    dt_sm_c (fun r _ => (dt_sm_mul (u r) (fun j => C j r * v j) n).symm)
  rw [e1, dt_sm_fub]
  refine dt_sm_c (fun i hi => ?_)
  show dt_sm (fun r => u r * (C i r * v i)) n = v i * dt_sm (fun j => C j i * u j) n
  rw [← dt_sm_mul]
  refine dt_sm_c (fun r hr => ?_)
  show u r * (C i r * v i) = v i * (C r i * u r)
  rw [sy i r hi hr]
  grind
theorem bl_r {C : Nat → Nat → Int} {n : Nat} (sy : ∀ j r, j < n → r < n → C j r = C r j) (a b : Int) (u v w : Nat → Int) : bl C w (fun i => a * u i - b * v i) n = a * bl C w u n - b * bl C w v n := by
  rw [bl_sy sy, bl_l, bl_sy sy (u := u), bl_sy sy (u := v)]
theorem qf_d {C : Nat → Nat → Int} {n : Nat} (sy : ∀ j r, j < n → r < n → C j r = C r j) (b b' : Int) (x x' : Nat → Int) : qf C (fun i => b * x' i - b' * x i) n = b * b * qf C x' n - 2 * (b * b') * bl C x' x n + b' * b' * qf C x n := by
  show bl C (fun i => b * x' i - b' * x i) (fun i => b * x' i - b' * x i) n = b * b * bl C x' x' n - 2 * (b * b') * bl C x' x n + b' * b' * bl C x x n
  rw [bl_l, bl_r sy, bl_r sy, bl_sy sy (u := x) (v := x')]
  generalize bl C x' x' n = p
  generalize bl C x' x n = q
  generalize bl C x x n = r
  grind
/-- against the stationary place -/
theorem bl_st {C : Nat → Nat → Int} {n K : Nat} {c x u y : Nat → Int} {g : Nat → Nat → Int} {b : Int} (k1 : ∀ r, r < n → dt_sm (fun j => C j r * x j) n + dt_sm (fun k => g k r * y k) K = -(b * c r)) : bl C u x n = -(b * dt_sm (fun i => c i * u i) n) - dt_sm (fun k => y k * dt_sm (fun i => g k i * u i) n) K := by
  have e1 : bl C u x n = dt_sm (fun r => -b * (c r * u r) + -1 * dt_sm (fun k => g k r * y k * u r) K) n := by
    refine dt_sm_c (fun r hr => ?_)
    show u r * dt_sm (fun j => C j r * x j) n = -b * (c r * u r) + -1 * dt_sm (fun k => g k r * y k * u r) K
    have e2 : dt_sm (fun k => g k r * y k * u r) K = u r * dt_sm (fun k => g k r * y k) K := by
      rw [← dt_sm_mul]
      exact dt_sm_c (fun k _ => Int.mul_comm _ _)
    rw [e2, show dt_sm (fun j => C j r * x j) n = -(b * c r) - dt_sm (fun k => g k r * y k) K by have := k1 r hr; omega]
    grind
  rw [e1, dt_sm_lin, dt_sm_fub]
  have e3 : dt_sm (fun i => dt_sm (fun r => g i r * y i * u r) n) K = dt_sm (fun k => y k * dt_sm (fun i => g k i * u i) n) K := by
    refine dt_sm_c (fun k _ => ?_)
    show dt_sm (fun r => g k r * y k * u r) n = y k * dt_sm (fun i => g k i * u i) n
    rw [← dt_sm_mul]
    refine dt_sm_c (fun r _ => ?_)
    show g k r * y k * u r = y k * (g k r * u r)
    grind
  rw [e3, Int.neg_mul]
  omega
theorem growA {C : Nat → Nat → Int} {n K : Nat} {c x x' y h : Nat → Int} {g : Nat → Nat → Int} {b b' : Int} (sy : ∀ j r, j < n → r < n → C j r = C r j) (k1 : ∀ r, r < n → dt_sm (fun j => C j r * x j) n + dt_sm (fun k => g k r * y k) K = -(b * c r)) (k2 : ∀ k, k < K → dt_sm (fun i => g k i * x i) n = h k * b) : b * b * (qf C x' n + 2 * b' * dt_sm (fun i => c i * x' i) n) - b' * b' * (qf C x n + 2 * b * dt_sm (fun i => c i * x i) n) = qf C (fun i => b * x' i - b' * x i) n + 2 * (b * b') * dt_sm (fun k => y k * (h k * b' - dt_sm (fun i => g k i * x' i) n)) K := by
  rw [qf_d sy]
  have e1 := bl_st (u := x') k1
  have e2 : qf C x n = -(b * dt_sm (fun i => c i * x i) n) - b * dt_sm (fun k => y k * h k) K := by
    have h1 : qf C x n = bl C x x n := rfl
    rw [h1, bl_st k1]
    congr 1
    rw [← dt_sm_mul]
    refine dt_sm_c (fun k hk => ?_)
    show y k * dt_sm (fun i => g k i * x i) n = b * (y k * h k)
    rw [k2 k hk]
    grind
  have e3 : dt_sm (fun k => y k * (h k * b' - dt_sm (fun i => g k i * x' i) n)) K = b' * dt_sm (fun k => y k * h k) K + -1 * dt_sm (fun k => y k * dt_sm (fun i => g k i * x' i) n) K := by
    rw [← dt_sm_lin]
    refine dt_sm_c (fun k _ => ?_)
    show y k * (h k * b' - dt_sm (fun i => g k i * x' i) n) = b' * (y k * h k) + -1 * (y k * dt_sm (fun i => g k i * x' i) n)
    grind
  rw [e1, e2, e3]
  generalize qf C x' n = P
  generalize dt_sm (fun i => c i * x' i) n = R
  generalize dt_sm (fun i => c i * x i) n = T
  generalize dt_sm (fun k => y k * h k) K = V
  generalize dt_sm (fun k => y k * dt_sm (fun i => g k i * x' i) n) K = U
  grind
/-- Cramer -/
theorem rg.cr {I' : aw_MI} {n m : Nat} (h : rg I' n m) (hp : ¬ rp_ac (I' 66) n = 0) {S t : Nat} (ho : rx_ok I' n m S) {r : Nat} (hr : r < n + cx_n S m) : dt_sm (fun j => rm_c I' n (cx_mb S m) j r * ex_x I' n m S t j) (n + cx_n S m) = ex_b I' n m S * rm_b I' n (cx_mb S m) (nI t) r := by
  have hD := (h.b0 ho).2
  have h1 := dt_zero (C := rm_c I' n (cx_mb S m)) (q := n + cx_n S m) (fun p hpw => h.piv hp hD p (by omega)) (rm_b I' n (cx_mb S m) (nI t)) r hr
  unfold dt_e at h1
  have e : dt_sm (fun j => rm_c I' n (cx_mb S m) j r * ex_x I' n m S t j) (n + cx_n S m) = ex_g I' n m S * dt_sm (fun j => rm_c I' n (cx_mb S m) j r * dt_x (rm_c I' n (cx_mb S m)) (n + cx_n S m) (rm_b I' n (cx_mb S m) (nI t)) j) (n + cx_n S m) := by
    rw [← dt_sm_mul]
    refine dt_sm_c (fun j _ => ?_)
    unfold ex_x dt_x
    grind
  rw [e, ← ex_gb, Int.mul_assoc]
  congr 1
  show _ = dt (n + cx_n S m) (rm_c I' n (cx_mb S m)) * _
  omega
theorem rg.k1 {I' : aw_MI} {n m : Nat} (h : rg I' n m) (hp : ¬ rp_ac (I' 66) n = 0) {S t : Nat} (ho : rx_ok I' n m S) {r : Nat} (hr : r < n) : dt_sm (fun j => rm_c I' n (cx_mb S m) j r * ex_x I' n m S t j) n + dt_sm (fun k => (rp_row I' n (cx_mb S m k) r).toInt * ex_x I' n m S t (n + k)) (cx_n S m) = -(ex_b I' n m S * (I' 67 r).toInt) := by
  have h1 := h.cr hp (t := t) ho (r := r) (by omega)
  rw [dt_sm_add] at h1
  have e : dt_sm (fun i => rm_c I' n (cx_mb S m) (n + i) r * ex_x I' n m S t (n + i)) (cx_n S m) = dt_sm (fun k => (rp_row I' n (cx_mb S m k) r).toInt * ex_x I' n m S t (n + k)) (cx_n S m) := by
    refine dt_sm_c (fun k _ => ?_)
    show rm_c I' n (cx_mb S m) (n + k) r * _ = _
    unfold rm_c
    rw [if_neg (by omega), if_pos hr, show n + k - n = k by omega]
  rw [e] at h1
  rw [h1]
  unfold rm_b
  have h2 := h.p r hr
  rw [if_pos hr, neg32 (by omega), Int.mul_neg]
theorem rg.k2 {I' : aw_MI} {n m : Nat} (h : rg I' n m) (hp : ¬ rp_ac (I' 66) n = 0) {S t : Nat} (ho : rx_ok I' n m S) {k : Nat} (hk : k < cx_n S m) : dt_sm (fun i => (rp_row I' n (cx_mb S m k) i).toInt * ex_x I' n m S t i) n = (rp_bd I' (cx_mb S m k) (nI t)).toInt * ex_b I' n m S := by
  have h1 := h.cr hp (t := t) ho (r := n + k) (by omega)
  rw [dt_sm_add] at h1
  have e1 : dt_sm (fun i => rm_c I' n (cx_mb S m) (n + i) (n + k) * ex_x I' n m S t (n + i)) (cx_n S m) = 0 := by
    refine dt_sm_0 (fun i _ => ?_)
    show rm_c I' n (cx_mb S m) (n + i) (n + k) * _ = 0
    rw [rm_c0 _ _ (by omega) (by omega), Int.zero_mul]
  have e2 : dt_sm (fun j => rm_c I' n (cx_mb S m) j (n + k) * ex_x I' n m S t j) n = dt_sm (fun i => (rp_row I' n (cx_mb S m k) i).toInt * ex_x I' n m S t i) n := by
    refine dt_sm_c (fun i hi => ?_)
    show rm_c I' n (cx_mb S m) i (n + k) * _ = _
    unfold rm_c
    rw [if_neg (by omega), if_neg (by omega), if_pos hi, show n + k - n = k by omega]
  rw [e1, e2] at h1
  unfold rm_b at h1
  rw [if_neg (by omega), show n + k - n = k by omega] at h1
  rw [Int.mul_comm _ (ex_b I' n m S)]
  omega
/-- a set's worth, over the square of its line -/
def ex_N (I : aw_MI) (n m t S : Nat) : Int := qf (fun j r => (I 66 (3 * r + j)).toInt) (ex_x I n m S t) n + 2 * ex_b I n m S * dt_sm (fun i => (I 67 i).toInt * ex_x I n m S t i) n
theorem qf_c {C E : Nat → Nat → Int} {x : Nat → Int} {n : Nat} (h : ∀ j r, j < n → r < n → C j r = E j r) : qf C x n = qf E x n := by
  unfold qf
  refine dt_sm_c (fun r hr => ?_)
  show x r * _ = x r * _
  congr 1
  refine dt_sm_c (fun j hj => ?_)
  show C j r * x j = _
  rw [h j r hj hr]
theorem rm_q {I : aw_MI} {n : Nat} {mb : Nat → Nat} (j r : Nat) (hj : j < n) (hr : r < n) : rm_c I n mb j r = (I 66 (3 * r + j)).toInt := by
  unfold rm_c
  rw [if_pos ⟨hr, hj⟩]
theorem rg.grow {I' : aw_MI} {n m : Nat} (h : rg I' n m) (hp : ¬ rp_ac (I' 66) n = 0) {S S' t : Nat} (ho : rx_ok I' n m S) (ho' : rx_ok I' n m S') (hy : ∀ k, k < cx_n S m → 0 ≤ ex_x I' n m S t (n + k) * ex_s I' n m S' t (cx_mb S m k)) (hne : ∃ l, l < m ∧ ¬ ex_b I' n m S * ex_s I' n m S' t l = ex_b I' n m S' * ex_s I' n m S t l) : ex_N I' n m t S * (ex_b I' n m S' * ex_b I' n m S') < ex_N I' n m t S' * (ex_b I' n m S * ex_b I' n m S) := by
  have hb := (h.b0 ho).1
  have hb' := (h.b0 ho').1
  have sy : ∀ j r, j < n → r < n → (fun j r => (I' 66 (3 * r + j)).toInt) j r = (fun j r => (I' 66 (3 * r + j)).toInt) r j := fun j r hj hr => by
    show (I' 66 (3 * r + j)).toInt = (I' 66 (3 * j + r)).toInt
    rw [h.sy r j hr hj]
  have g := growA (C := fun j r => (I' 66 (3 * r + j)).toInt) (n := n) (K := cx_n S m) (c := fun i => (I' 67 i).toInt) (x := ex_x I' n m S t) (x' := ex_x I' n m S' t) (y := fun k => ex_x I' n m S t (n + k)) (h := fun k => (rp_bd I' (cx_mb S m k) (nI t)).toInt) (g := fun k r => (rp_row I' n (cx_mb S m k) r).toInt) (b := ex_b I' n m S) (b' := ex_b I' n m S') sy (fun r hr => by
    have h1 := h.k1 hp (t := t) ho hr
    rw [← h1]
    congr 1
    refine dt_sm_c (fun j hj => ?_)
    show (I' 66 (3 * r + j)).toInt * _ = _
    rw [rm_q j r hj hr]) (fun k hk => h.k2 hp ho hk)
  have hpd : ∀ k, k ≤ n → 0 < dt k (fun j r => (I' 66 (3 * r + j)).toInt) := fun k hk => by
    have h1 := h.pd hp (cx_mb S m) k hk
    have e : dt k (rm_c I' n (cx_mb S m)) = dt k (fun j r => (I' 66 (3 * r + j)).toInt) := dt_c (fun j r hj hr => rm_q j r (by omega) (by omega))
    rwa [e] at h1
  have hq := qf_nn (x := fun i => ex_b I' n m S * ex_x I' n m S' t i - ex_b I' n m S' * ex_x I' n m S t i) h.n1 h.n3 sy hpd
  have hs : 0 ≤ dt_sm (fun k => ex_x I' n m S t (n + k) * ((rp_bd I' (cx_mb S m k) (nI t)).toInt * ex_b I' n m S' - dt_sm (fun i => (rp_row I' n (cx_mb S m k) i).toInt * ex_x I' n m S' t i) n)) (cx_n S m) := by
    have gg : ∀ K, K ≤ cx_n S m → 0 ≤ dt_sm (fun k => ex_x I' n m S t (n + k) * ((rp_bd I' (cx_mb S m k) (nI t)).toInt * ex_b I' n m S' - dt_sm (fun i => (rp_row I' n (cx_mb S m k) i).toInt * ex_x I' n m S' t i) n)) K := by
      intro K
      induction K with
      | zero => intro _; exact Int.le_refl _
      | succ K ih =>
        intro hK
        have h1 := ih (by omega)
        have h2 := hy K (by omega)
        exact Int.add_nonneg h1 h2
    exact gg _ (Nat.le_refl _)
  have hq0 : ¬ qf (fun j r => (I' 66 (3 * r + j)).toInt) (fun i => ex_b I' n m S * ex_x I' n m S' t i - ex_b I' n m S' * ex_x I' n m S t i) n = 0 := by
    intro e
    have h0 := hq.2 e
    obtain ⟨l, hl, hne⟩ := hne
    refine hne ?_
    unfold ex_s
    have e1 : dt_sm (fun i => (rp_row I' n l i).toInt * (ex_b I' n m S * ex_x I' n m S' t i)) n = dt_sm (fun i => (rp_row I' n l i).toInt * (ex_b I' n m S' * ex_x I' n m S t i)) n := by
      refine dt_sm_c (fun i hi => ?_)
      show _ * (ex_b I' n m S * ex_x I' n m S' t i) = _
      have := h0 i hi
      rw [show ex_b I' n m S * ex_x I' n m S' t i = ex_b I' n m S' * ex_x I' n m S t i by omega]
    have e2 : ∀ (b : Int) (x : Nat → Int), dt_sm (fun i => (rp_row I' n l i).toInt * (b * x i)) n = b * dt_sm (fun i => (rp_row I' n l i).toInt * x i) n := fun b x => by
      rw [← dt_sm_mul]
      refine dt_sm_c (fun i _ => ?_)
      show (rp_row I' n l i).toInt * (b * x i) = b * ((rp_row I' n l i).toInt * x i)
      grind
    rw [e2, e2] at e1
    rw [Int.mul_sub, Int.mul_sub, e1]
    congr 1
    grind
  have hbb := Int.mul_nonneg (Int.le_of_lt (Int.mul_pos hb hb')) hs
  unfold ex_N
  have e5 : ∀ a b : Int, a * b = b * a := Int.mul_comm
  rw [e5 _ (ex_b I' n m S' * ex_b I' n m S'), e5 _ (ex_b I' n m S * ex_b I' n m S)]
  have e6 : ∀ a b c : Int, 2 * (a * b) * c = 2 * (a * b * c) := fun a b c => by grind
  rw [e6] at g
  omega

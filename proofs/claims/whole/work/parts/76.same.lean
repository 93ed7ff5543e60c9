/-! AGREEMENT: the class's answers are the reference's -/
theorem bz_m : ∀ n, n < 4 → ∀ k, k ≤ n → dt_ps k (bz n) < 2 ^ 31 := by decide +kernel
theorem bz_w : ∀ n, n < 4 → ∀ k, k ≤ 2 * n → dt_ps k (bz n) < 2 ^ 31 := by decide +kernel
theorem rp_ac_all {q : Nat → Int32} : ∀ {j : Nat}, ¬ rp_ac q j = 0 → ∀ i, i < j → 0 < rp_minor q (i + 1)
  | 0, _, _, hi => absurd hi (by omega)
  | j + 1, h, i, hi => by
    unfold rp_ac at h
    rcases rp_ac01 q j with e | e
    · rw [e] at h
      exact absurd (by split <;> rfl) h
    · by_cases e2 : 0 < rp_minor q (j + 1)
      · by_cases e3 : i = j
        · rw [e3]; exact e2
        · exact rp_ac_all (by rw [e]; decide) i (by omega)
      · rw [e, if_neg e2] at h
        exact absurd (by rfl) h
theorem rp_ac_of {q : Nat → Int32} : ∀ {j : Nat}, (∀ i, i < j → 0 < rp_minor q (i + 1)) → rp_ac q j = nI 1
  | 0, _ => rfl
  | j + 1, h => by
    unfold rp_ac
    rw [rp_ac_of (fun i hi => h i (by omega)), if_pos (h j (by omega))]
    rfl
theorem rg.Cq {I' : aw_MI} {n m : Nat} (h : rg I' n m) {mb : Nat → Nat} : ∀ j r, j < n → r < n → (rm_c I' n mb j r).natAbs ≤ bz n j r := by
  intro j r hj hr
  unfold rm_c bz
  rw [if_pos ⟨hr, hj⟩, if_pos hj, if_pos hr]
  exact h.q r j hr hj
theorem rg.mn {I' : aw_MI} {n m : Nat} (h : rg I' n m) (mb : Nat → Nat) {k : Nat} (hk : k ≤ n) : (rp_minor (I' 66) k).toInt = dt k (rm_c I' n mb) := by
  unfold rp_minor
  have e : dt k (fun c r => (I' 66 (3 * r + c)).toInt) = dt k (rm_c I' n mb) := by
    refine dt_c (fun j r hj hr => ?_)
    unfold rm_c
    rw [if_pos ⟨by omega, by omega⟩]
  rw [e, o32]
  exact Nat.lt_of_le_of_lt (dt_bs (fun j r hj hr => h.Cq j r (by omega) (by omega))) (bz_m n (by have := h.n3; omega) k hk)
theorem rg.pd {I' : aw_MI} {n m : Nat} (h : rg I' n m) (hp : ¬ rp_ac (I' 66) n = 0) (mb : Nat → Nat) : ∀ k, k ≤ n → 0 < dt k (rm_c I' n mb)
  | 0, _ => by
    show (0 : Int) < 1
    decide
  | k + 1, hk => by
    have h1 := rp_ac_all hp k (by omega)
    rw [Int32.lt_iff_toInt_lt, h.mn mb hk] at h1
    exact h1
theorem rg.sy2 {I' : aw_MI} {n m : Nat} (h : rg I' n m) {mb : Nat → Nat} (j r : Nat) : rm_c I' n mb j r = rm_c I' n mb r j := by
  unfold rm_c
  by_cases e1 : r < n <;> by_cases e2 : j < n
  · rw [if_pos ⟨e1, e2⟩, if_pos ⟨e2, e1⟩, h.sy r j e1 e2]
  · rw [if_neg (fun q => e2 q.2), if_pos e1, if_neg (fun q => e2 q.1), if_neg e2, if_pos e1]
  · rw [if_neg (fun q => e1 q.1), if_neg e1, if_pos e2, if_neg (fun q => e1 q.2), if_pos e2]
  · rw [if_neg (fun q => e1 q.1), if_neg e1, if_neg e2, if_neg (fun q => e1 q.2), if_neg e2, if_neg e1]
theorem rm_c0 {I' : aw_MI} {n : Nat} {mb : Nat → Nat} (j r : Nat) (hj : n ≤ j) (hr : n ≤ r) : rm_c I' n mb j r = 0 := by
  unfold rm_c
  rw [if_neg (by omega), if_neg (by omega), if_neg (by omega)]
theorem rg.piv {I' : aw_MI} {n m : Nat} (h : rg I' n m) (hp : ¬ rp_ac (I' 66) n = 0) {S : Nat} (hw : dt (n + cx_n S m) (rm_c I' n (cx_mb S m)) ≠ 0) : ∀ p, p ≤ n + cx_n S m → dt p (rm_c I' n (cx_mb S m)) ≠ 0 :=
  dt_piv h.n1 h.n3 (fun j r _ _ => h.sy2 j r) rm_c0 (h.pd hp _) hw
theorem rc_dt {I' : aw_MI} {n m S p : Nat} (hp : p ≤ n + cx_n S m) : dt p (rc_C I' n m S) = dt p (rm_c I' n (cx_mb S m)) := by
  refine dt_c (fun j r hj hr => ?_)
  unfold rc_C
  rw [if_pos (by omega)]
theorem rg.Dw {I' : aw_MI} {n m : Nat} (h : rg I' n m) {S : Nat} (hS : cx_n S m ≤ n) {p : Nat} (hp : p ≤ n + cx_n S m) : (dt p (rm_c I' n (cx_mb S m))).natAbs < 2 ^ 31 := by
  rw [← rc_dt hp]
  refine Nat.lt_of_le_of_lt (dt_bs (B := bz n) (fun j r hj hr => ?_)) (bz_w n (by have := h.n3; omega) p (by omega))
  have h1 := h.C hS j r (by omega) (by omega)
  rwa [if_pos (by omega)] at h1
theorem ag.okx {I I' : aw_MI} {c n m : Nat} (a : ag I I' c n m) (h : rg I' n m) (hp : ¬ rp_ac (I' 66) n = 0) (S : Nat) : cx_ok I c n m S ↔ rx_ok I' n m S := by
  unfold cx_ok rx_ok
  refine and_congr_right (fun hS => ?_)
  have hD : ∀ q, q ≤ n + cx_n S m → (dt q (rc_C I' n m S)).natAbs < 2 ^ 63 := fun q hq => by
    rw [rc_dt hq]
    have := h.Dw hS hq
    omega
  have h1 := br_ok (M := cx_M I c n m S) (C := rc_C I' n m S) (w := n + cx_n S m) a.M (bz_hB h.n1 h.n3 (by omega) (h.C hS)) hD (n + cx_n S m) 0 (by omega) (fun p h => by
    rw [show p = 0 by omega]
    show (1 : Int) ≠ 0
    decide)
  rw [h1]
  have h2 := hD (n + cx_n S m) (Nat.le_refl _)
  rw [rc_dt (Nat.le_refl _)] at h2
  unfold rx_d
  rw [ofI0 h2]
  constructor
  · intro k
    have h3 := k (n + cx_n S m) (Nat.le_refl _)
    rwa [rc_dt (Nat.le_refl _)] at h3
  · intro k p hpw
    rw [rc_dt hpw]
    exact h.piv hp k p hpw
theorem ag.S {I I' : aw_MI} {c n m : Nat} (a : ag I I' c n m) (h : rg I' n m) (hp : ¬ rp_ac (I' 66) n = 0) {S : Nat} (ho : rx_ok I' n m S) : (cx_S I c n m S).2 = rx_d I' n m S ∧ ∀ r, r < n + cx_n S m → (cx_S I c n m S).1 r (n + cx_n S m) = Int64.ofInt (dt (n + cx_n S m) (dt_rp (rm_c I' n (cx_mb S m)) r (rm_b I' n (cx_mb S m) (nI 0)))) ∧ (cx_S I c n m S).1 r (n + cx_n S m + 1) = Int64.ofInt (dt (n + cx_n S m) (dt_rp (rm_c I' n (cx_mb S m)) r (rm_u I' n (cx_mb S m)))) := by
  have hw : dt (n + cx_n S m) (rm_c I' n (cx_mb S m)) ≠ 0 := fun e => ho.2 (by unfold rx_d; rw [e]; rfl)
  obtain ⟨h1, h2⟩ := br_end (M := cx_M I c n m S) (C := rc_C I' n m S) (w := n + cx_n S m) a.M (bz_hB h.n1 h.n3 (by have := ho.1; omega) (h.C ho.1)) (fun p hpw => by rw [rc_dt hpw]; exact h.piv hp hw p hpw)
  refine ⟨?_, fun r hr => ?_⟩
  · show (ce_S _ _).2 = _
    rw [h1, rc_dt (Nat.le_refl _)]
    rfl
  · obtain ⟨h3, h4⟩ := h2 r hr
    have e1 : rc_C I' n m S (n + cx_n S m) = rm_b I' n (cx_mb S m) (nI 0) := by
      unfold rc_C
      rw [if_neg (by omega), if_pos rfl]
    have e2 : rc_C I' n m S (n + cx_n S m + 1) = rm_u I' n (cx_mb S m) := by
      unfold rc_C
      rw [if_neg (by omega), if_neg (by omega)]
    have e3 : ∀ v, dt (n + cx_n S m) (dt_rp (rc_C I' n m S) r v) = dt (n + cx_n S m) (dt_rp (rm_c I' n (cx_mb S m)) r v) := fun v => by
      refine dt_c (fun j i hj hi => ?_)
      unfold dt_rp rc_C
      by_cases e : j = r
      · rw [if_pos e, if_pos e]
      · rw [if_neg e, if_neg e, if_pos hj]
    refine ⟨?_, ?_⟩
    · show (ce_S _ _).1 r _ = _
      rw [h3, e1, e3]
    · show (ce_S _ _).1 r _ = _
      rw [h4, e2, e3]
theorem sg_abs (d : Int64) : (sp_sg d).toInt64 * d = sp_abs d := by
  unfold sp_sg sp_abs
  split
  · show (-1 : Int64) * d = _
    grind
  · show (1 : Int64) * d = _
    grind
theorem sg_te (d v : Int64) : (sp_sg d).toInt64 * v = te_t (if d < 0 then nI 1 else nI 0) v := by
  unfold sp_sg te_t
  split
  · rw [if_neg (by decide)]
    show (-1 : Int64) * v = _
    grind
  · rw [if_pos (by rfl)]
    show (1 : Int64) * v = _
    grind
theorem ag.b {I I' : aw_MI} {c n m : Nat} (a : ag I I' c n m) (h : rg I' n m) (hp : ¬ rp_ac (I' 66) n = 0) {S : Nat} (ho : rx_ok I' n m S) : cx_b I c n m S = rx_b I' n m S := by
  unfold cx_b rx_b
  rw [(a.S h hp ho).1, sg_abs]
theorem ag.u {I I' : aw_MI} {c n m : Nat} (a : ag I I' c n m) (h : rg I' n m) (hp : ¬ rp_ac (I' 66) n = 0) {S : Nat} (ho : rx_ok I' n m S) {r : Nat} (hr : r < n + cx_n S m) : cx_u I c n m S r = rx_u I' n m S r := by
  unfold cx_u rx_u la_u te_f rx_s
  rw [(a.S h hp ho).1, ((a.S h hp ho).2 r hr).2, sg_te]
theorem rg.bt {I' : aw_MI} {n m : Nat} (h : rg I' n m) {S t : Nat} (ht : t ≤ 40) {r : Nat} (hr : r < n + cx_n S m) : rm_b I' n (cx_mb S m) (nI t) r = 1 * rm_b I' n (cx_mb S m) (nI 0) r + t * rm_u I' n (cx_mb S m) r := by
  unfold rm_b rm_u
  by_cases e : r < n
  · rw [if_pos e, if_pos e, if_pos e]; omega
  · have hl : cx_mb S m (r - n) < m := sp_mb_lt (show r - n < (sp_mb (nI S) m).length by unfold cx_n at hr; omega)
    rw [if_neg e, if_neg e, if_neg e, (h.bd hl ht).1]
    omega
theorem rg.dtb {I' : aw_MI} {n m : Nat} (h : rg I' n m) {S t : Nat} (ht : t ≤ 40) {r : Nat} (hr : r < n + cx_n S m) : dt (n + cx_n S m) (dt_rp (rm_c I' n (cx_mb S m)) r (rm_b I' n (cx_mb S m) (nI t))) = 1 * dt (n + cx_n S m) (dt_rp (rm_c I' n (cx_mb S m)) r (rm_b I' n (cx_mb S m) (nI 0))) + t * dt (n + cx_n S m) (dt_rp (rm_c I' n (cx_mb S m)) r (rm_u I' n (cx_mb S m))) := by
  rw [← dt_lin 1 t _ _ hr]
  refine dt_c (fun j i hj hi => ?_)
  unfold dt_rp
  split
  · exact h.bt ht hi
  · rfl
theorem ag.v {I I' : aw_MI} {c n m : Nat} (a : ag I I' c n m) (h : rg I' n m) (hp : ¬ rp_ac (I' 66) n = 0) {S t : Nat} (ho : rx_ok I' n m S) (ht : t ≤ 40) {r : Nat} (hr : r < n + cx_n S m) : cx_v I c n m S (nI t) r = rx_v I' n m S (nI t) r := by
  unfold cx_v rx_v la_v la_u te_f
  rw [(a.S h hp ho).1, ((a.S h hp ho).2 r hr).1, ((a.S h hp ho).2 r hr).2, h.dtb ht hr, Int64.ofInt_add, Int64.ofInt_mul, Int64.ofInt_mul]
  generalize Int64.ofInt (dt (n + cx_n S m) (dt_rp (rm_c I' n (cx_mb S m)) r (rm_b I' n (cx_mb S m) (nI 0)))) = X
  generalize Int64.ofInt (dt (n + cx_n S m) (dt_rp (rm_c I' n (cx_mb S m)) r (rm_u I' n (cx_mb S m)))) = U
  have e1 : (nI t).toInt64 = Int64.ofInt t := by
    rw [t64, nI_toInt (by omega)]
  rw [e1, show Int64.ofInt 1 = 1 from rfl]
  unfold rx_s sp_sg te_t
  generalize Int64.ofInt t = T
  split
  · rw [if_neg (by decide)]
    show (-1 : Int64) * X + T * ((-1 : Int64) * U) = _
    grind
  · rw [if_pos (by rfl)]
    show (1 : Int64) * X + T * ((1 : Int64) * U) = _
    grind

theorem ag.y {I I' : aw_MI} {c n m : Nat} (a : ag I I' c n m) (h : rg I' n m) (hp : ¬ rp_ac (I' 66) n = 0) {S t : Nat} (ho : rx_ok I' n m S) (ht : t ≤ 40) (l : Nat) : cx_y I c n m S (nI t) l = rx_y I' n m S (nI t) l :=
  sp_wt_c (fun j hj => a.v h hp ho ht (by omega))
theorem ag.z {I I' : aw_MI} {c n m : Nat} (a : ag I I' c n m) (h : rg I' n m) (hp : ¬ rp_ac (I' 66) n = 0) {S : Nat} (ho : rx_ok I' n m S) (l : Nat) : cx_z I c n m S l = rx_z I' n m S l :=
  sp_wt_c (fun j hj => a.u h hp ho (by omega))
theorem ag.slx {I I' : aw_MI} {c n m : Nat} (a : ag I I' c n m) (h : rg I' n m) (hp : ¬ rp_ac (I' 66) n = 0) {S t : Nat} (ho : rx_ok I' n m S) (ht : t ≤ 40) {l : Nat} (hl : l < m) : cx_sl I c n m S (nI t) l = rx_sl I' n m S (nI t) l := by
  unfold cx_sl rx_sl
  rw [a.bd hl, a.b h hp ho]
  exact sp_left_c (fun i hi => a.rw hl hi) (fun i hi => a.v h hp ho ht (by omega))
theorem ag.mv {I I' : aw_MI} {c n m : Nat} (a : ag I I' c n m) (h : rg I' n m) (hp : ¬ rp_ac (I' 66) n = 0) {S : Nat} (ho : rx_ok I' n m S) {l : Nat} (hl : l < m) : cx_mv I c n m S l = rx_mv I' n m S l := by
  unfold cx_mv rx_mv
  rw [a.dft hl, a.b h hp ho]
  exact sp_left_c (fun i hi => a.rw hl hi) (fun i hi => a.u h hp ho (by omega))
theorem ag.wo {I I' : aw_MI} {c n m : Nat} (a : ag I I' c n m) (h : rg I' n m) (hp : ¬ rp_ac (I' 66) n = 0) {S t : Nat} (ho : rx_ok I' n m S) (ht : t ≤ 40) : cx_wo I c n m S (nI t) = rx_wo I' n m S (nI t) := by
  unfold cx_wo rx_wo
  have e : sp_w1 (I (c + 2)) (cx_v I c n m S (nI t)) n = sp_w1 (I' 67) (rx_v I' n m S (nI t)) n := by
    have g : ∀ k, k ≤ n → sp_w1 (I (c + 2)) (cx_v I c n m S (nI t)) k = sp_w1 (I' 67) (rx_v I' n m S (nI t)) k := by
      intro k
      induction k with
      | zero => intro _; rfl
      | succ k ih =>
        intro hk
        unfold sp_w1
        rw [ih (by omega), a.p k (by omega), a.v h hp ho ht (by omega)]
    exact g n (Nat.le_refl _)
  rw [e]
  exact sp_w2_c (fun l hl => a.bd hl _) (fun l _ => a.y h hp ho ht l)
theorem fit_al {kd : Nat → Int32} {y sl : Nat → Int64} {x : Int32} : ∀ (z l : Nat), sp_fit kd y sl x l z = sp_al (rp_rb kd y sl x) l z
  | 0, _ => rfl
  | z + 1, l => by
    unfold sp_fit sp_al
    rw [fit_al z (l + 1)]
    unfold rp_rb
    by_cases e1 : y l < 0 <;> by_cases e2 : sp_on (kd l) = 0 <;> by_cases e3 : x >>> (nI l &&& 31) &&& nI 1 = 0 <;> by_cases e4 : sp_held (kd l) (sl l) = 0 <;> simp [e1, e2, e3, e4]
theorem ag.fit {I I' : aw_MI} {c n m : Nat} (a : ag I I' c n m) (h : rg I' n m) (hp : ¬ rp_ac (I' 66) n = 0) {S t : Nat} (ho : rx_ok I' n m S) (ht : t ≤ 40) (x : Int32) : cx_fit I c n m x (nI t) S = rx_fit I' n m x (nI t) S := by
  unfold cx_fit rx_fit
  rw [fit_al]
  refine sp_al_c (m := m) (by omega) (fun l hl => ?_)
  unfold rp_rb
  rw [a.kd l hl, a.y h hp ho ht, a.slx h hp ho ht hl]
theorem ag.gb {I I' : aw_MI} {c n m : Nat} (a : ag I I' c n m) (h : rg I' n m) (hp : ¬ rp_ac (I' 66) n = 0) {t : Nat} (ht : t ≤ 40) (x : Int32) (S : Nat) : cx_gb I c n m x (nI t) S = rx_gb I' n m x (nI t) S := by
  have h1 := a.okx h hp S
  unfold cx_gb rx_gb
  by_cases ho : rx_ok I' n m S
  · have hc := h1.mpr ho
    rw [a.fit h hp ho ht]
    simp only [decide_eq_true hc.1, decide_eq_true hc.2, decide_eq_true ho.2]
  · have hc := mt h1.mp ho
    unfold cx_ok at hc
    unfold rx_ok at ho
    by_cases e : cx_n S m ≤ n
    · have e1 : ¬ ce_ok (cx_M I c n m S) 0 (n + cx_n S m) = nI 1 := fun q => hc ⟨e, q⟩
      have e2 : ¬ ¬ rx_d I' n m S = 0 := fun q => ho ⟨e, q⟩
      simp only [decide_eq_false e1, decide_eq_false e2, Bool.false_and]
    · simp only [decide_eq_false e, Bool.false_and]
theorem cx_find_c {f g : Nat → Bool} {x : Int32} (h : ∀ w, f w = g w) (z w : Nat) : cx_find f x z w = cx_find g x z w := by
  rw [show f = g from funext h]
theorem ag.find {I I' : aw_MI} {c n m : Nat} (a : ag I I' c n m) (h : rg I' n m) (hp : ¬ rp_ac (I' 66) n = 0) {t : Nat} (ht : t ≤ 40) (x x' : Int32) (z w : Nat) : cx_find (cx_gb I c n m x (nI t)) x' z w = cx_find (rx_gb I' n m x (nI t)) x' z w :=
  cx_find_c (fun S => a.gb h hp ht x S) z w
theorem ag.minor {I I' : aw_MI} {c n m : Nat} (a : ag I I' c n m) (h : rg I' n m) {k : Nat} (h1 : 1 ≤ k) (hk : k ≤ n) : sp_minor (I (c + 1)) k = rp_minor (I' 66) k := by
  have n3 := h.n3
  unfold sp_minor rp_minor
  rcases (by omega : k = 1 ∨ k = 2 ∨ k = 3) with rfl | rfl | rfl
  · rw [if_neg (by decide), if_pos rfl, dt_1, Int32.ofInt_toInt]
    exact a.q 0 0 (by omega) (by omega)
  · rw [if_neg (by decide), if_neg (by decide), dt_2]
    unfold sp_det2
    have e0 := a.q 0 0 (by omega) (by omega)
    have e1 := a.q 0 1 (by omega) (by omega)
    have e4 := a.q 1 1 (by omega) (by omega)
    have s1 := h.sy 0 1 (by omega) (by omega)
    simp only [Nat.zero_mul, Nat.mul_zero, Nat.zero_add, Nat.add_zero, Nat.one_mul, Nat.mul_one, Nat.reduceAdd, Nat.reduceMul] at e0 e1 e4 s1 ⊢
    rw [Int32.ofInt_sub, Int32.ofInt_mul, Int32.ofInt_mul, Int32.ofInt_toInt, Int32.ofInt_toInt, Int32.ofInt_toInt, Int32.ofInt_toInt, e0, e1, e4, s1]
  · rw [if_pos (by decide), dt_3]
    unfold sp_det3 sp_det2
    have e0 := a.q 0 0 (by omega) (by omega)
    have e1 := a.q 0 1 (by omega) (by omega)
    have e2 := a.q 0 2 (by omega) (by omega)
    have e4 := a.q 1 1 (by omega) (by omega)
    have e5 := a.q 1 2 (by omega) (by omega)
    have e8 := a.q 2 2 (by omega) (by omega)
    have s1 := h.sy 0 1 (by omega) (by omega)
    have s2 := h.sy 0 2 (by omega) (by omega)
    have s3 := h.sy 1 2 (by omega) (by omega)
    simp only [Nat.zero_mul, Nat.mul_zero, Nat.zero_add, Nat.add_zero, Nat.one_mul, Nat.mul_one, Nat.reduceAdd, Nat.reduceMul] at e0 e1 e2 e4 e5 e8 s1 s2 s3 ⊢
    simp only [Int32.ofInt_sub, Int32.ofInt_add, Int32.ofInt_mul, Int32.ofInt_toInt]
    rw [e0, e1, e2, e4, e5, e8, s1, s2, s3]
    grind
theorem ag.hl {I I' : aw_MI} {c n m : Nat} (a : ag I I' c n m) (h : rg I' n m) : sp_hl (I (c + 1)) 1 n = rp_ac (I' 66) n := by
  have g : ∀ z k, 1 ≤ k → k + z = n + 1 → (∀ i, i + 1 < k → 0 < rp_minor (I' 66) (i + 1)) → sp_hl (I (c + 1)) k z = rp_ac (I' 66) n := by
    intro z
    induction z with
    | zero =>
      intro k h1 hk hi
      rw [rp_ac_of (fun i hin => hi i (by omega))]
      rfl
    | succ z ih =>
      intro k h1 hk hi
      unfold sp_hl
      rw [a.minor h h1 (by omega)]
      by_cases e : 0 < rp_minor (I' 66) k
      · rw [if_pos e]
        refine ih (k + 1) (by omega) (by omega) (fun i hik => ?_)
        by_cases e2 : i + 1 = k
        · rw [e2]; exact e
        · exact hi i (by omega)
      · rw [if_neg e]
        by_cases e3 : rp_ac (I' 66) n = 0
        · rw [e3]; rfl
        · have h4 := rp_ac_all e3 (k - 1) (by omega)
          rw [show k - 1 + 1 = k by omega] at h4
          exact absurd h4 e
  exact g n 1 (by omega) (by omega) (fun i hi => absurd hi (by omega))

/-! THE REFERENCE: lowest terms; working, answer, worth, weight, slack, held, tight -/
theorem quo64 (x y : Int64) : x / y = Int64.ofInt (x.toInt.tdiv y.toInt) := by
  apply Int64.toInt_inj.mp
  rw [Int64.toInt_div, Int64.toInt_ofInt]
theorem rem64 (x y : Int64) : x - x / y * y = Int64.ofInt (x.toInt.tmod y.toInt) := by
  rw [Int.tmod_def, Int64.ofInt_sub, Int64.ofInt_mul, quo64, Int64.ofInt_toInt, Int64.ofInt_toInt, Int64.mul_comm]
theorem abs63 (x : Int64) : x.toInt.natAbs ≤ 2 ^ 63 := by
  have h1 := Int64.toInt_lt x
  have h2 := Int64.le_toInt x
  omega
theorem rem64N (x y : Int64) (hy : ¬ y = 0) : (x - x / y * y).toInt = x.toInt.tmod y.toInt ∧ (x.toInt.tmod y.toInt).natAbs = x.toInt.natAbs % y.toInt.natAbs := by
  have h0 : y.toInt.natAbs ≠ 0 := fun h => hy (Int64.toInt_inj.mp (by rw [Int.natAbs_eq_zero.mp h]; rfl))
  have h1 : (x.toInt.tmod y.toInt).natAbs = x.toInt.natAbs % y.toInt.natAbs := Int.natAbs_tmod _ _
  have h2 := Nat.mod_lt x.toInt.natAbs (Nat.pos_of_ne_zero h0)
  have h3 := abs63 y
  refine ⟨?_, h1⟩
  rw [rem64, Int64.toInt_ofInt_of_le]
  · omega
  · omega
theorem sp_gt_all : ∀ (z : Nat) (x y : Int64), y.toInt.natAbs ≤ z → sp_gt z x y
  | 0, x, y, h => Int64.toInt_inj.mp (Int.natAbs_eq_zero.mp (by omega))
  | z + 1, x, y, h => by
    by_cases e : y = 0
    · exact Or.inl e
    · refine Or.inr (sp_gt_all z _ _ ?_)
      obtain ⟨h1, h2⟩ := rem64N x y e
      have h0 : y.toInt.natAbs ≠ 0 := fun h => e (Int64.toInt_inj.mp (by rw [Int.natAbs_eq_zero.mp h]; rfl))
      have h3 := Nat.mod_lt x.toInt.natAbs (Nat.pos_of_ne_zero h0)
      rw [h1, h2]
      omega
theorem sp_gcd_ne : ∀ (z : Nat) (x y : Int64), sp_gt z x y → (¬ y = 0 ∨ ¬ x = 0) → ¬ sp_gcd z x y = 0
  | 0, x, y, h, e => by
    have h' : y = 0 := h
    exact e.resolve_left (fun q => q h')
  | z + 1, x, y, h, e => by
    unfold sp_gcd
    by_cases q : y = 0
    · rw [if_pos q]
      exact e.resolve_left (fun p => p q)
    · rw [if_neg q]
      exact sp_gcd_ne z _ _ (h.resolve_left q) (Or.inr q)
def lw_v (a b : Int64) (pt : Int32) : Int64 := sp_low b.toInt.natAbs a b pt
theorem tX8_low {G : aw_G} {d : Nat} {Ω : aw_O} {I : aw_MI} {J : aw_MJ} {Q : Int64 → aw_O → aw_MI → aw_MJ → Prop} {a b : Int64} {pt : Int32} (hb : ¬ b = 0) (hd : 1 ≤ d) (hQ : Q (lw_v a b pt) Ω I J) : aw_Call G MX8_lowest d 0 0 [.long a, .long b, .int pt] Ω I J (aw_QL Q) :=
  tX8_lowest (sp_gt_all _ _ _ (Nat.le_refl _)) (sp_gcd_ne _ _ _ (sp_gt_all _ _ _ (Nat.le_refl _)) (Or.inl hb)) hd hQ
theorem sp_abs_ne {x : Int64} (h : ¬ x = 0) : ¬ sp_abs x = 0 := by
  unfold sp_abs
  split
  · exact Int64.neg_ne_zero.mpr h
  · exact h
theorem two_ne {x : Int64} (h : ¬ x = 0) (hx : x.toInt.natAbs < 2 ^ 62) : ¬ 2 * x = 0 := by
  intro q
  have h1 := congrArg Int64.toInt q
  rw [Int64.toInt_mul] at h1
  have h2 : (2 : Int64).toInt = 2 := rfl
  have h3 : (0 : Int64).toInt = 0 := rfl
  rw [h2, h3, Int.bmod_eq_of_le (by omega) (by omega)] at h1
  exact h (Int64.toInt_inj.mp (by omega))
theorem rx_bne {I : aw_MI} {n m w : Nat} {x t : Int32} (h : rx_gb I n m x t w = true) : ¬ rx_b I n m w = 0 := by
  simp only [rx_gb, Bool.and_eq_true, decide_eq_true_eq] at h
  exact sp_abs_ne h.2.1
theorem sp_part01 (x : Int32) : sp_part x = nI 0 ∨ sp_part x = nI 1 := by
  unfold sp_part
  split
  · exact Or.inr rfl
  · split
    · exact Or.inr rfl
    · exact Or.inl rfl
theorem tX8_isPart2 {G : aw_G} {d : Nat} {Ω : aw_O} {I : aw_MI} {J : aw_MJ} {Q : Int32 → aw_O → aw_MI → aw_MJ → Prop} {x : Int32} (k0 : sp_part x = 0 → Q (nI 0) Ω I J) (k1 : ¬ sp_part x = 0 → Q (nI 1) Ω I J) : aw_Call G MX8_isPart d 0 0 [.int x] Ω I J (aw_QI Q) := by
  refine tX8_isPart ?_
  rcases sp_part01 x with h | h
  · rw [h]; exact k0 h
  · rw [h]; exact k1 (by rw [h]; decide)
abbrev rx_res (I : aw_MI) (n m S : Nat) : Int32 := cx_find (rx_gb I n m (nI S) (I 65 3)) (nI S) (S + 1) 0
theorem rx_find_c {I I' : aw_MI} {n m S w : Nat} {x : Int32} {t : Int32} (h : rx_E I I') : rx_gb I' n m x t w = rx_gb I n m x t w := by
  have e1 : rx_sl I' n m w t = rx_sl I n m w t := by
    funext l
    unfold rx_sl
    rw [rp_bd_c h.2.2, rx_b_c h, rx_v_c h]
    exact sp_left_c (fun i _ => rp_row_c h.2.2) (fun _ _ => rfl)
  unfold rx_gb rx_fit
  rw [rx_d_c h, rx_y_c h, e1, h.2.2]
theorem rx_res_c {I I' : aw_MI} {n m S : Nat} (h : rx_E I I') (ht : I' 65 3 = I 65 3) : rx_res I' n m S = rx_res I n m S := by
  unfold rx_res
  rw [ht, show rx_gb I' n m (nI S) (I 65 3) = rx_gb I n m (nI S) (I 65 3) from funext fun w => rx_find_c (S := S) h]

theorem tX8_working {G : aw_G} {d : Nat} {Ω : aw_O} {I : aw_MI} {J : aw_MJ} {Q : Int32 → aw_O → aw_MI → aw_MJ → Prop} {n m : Nat} (hM : aw_model Ω 65) (hn : I 65 0 = nI n) (hn3 : n ≤ 3) (hm : I 65 4 = nI m) (hm6 : m ≤ 6) {x : Int32} (hd : 6 ≤ d) (kB : sp_var x (2 ^ m) = 0 → Q (-2) Ω I J) (kS : ∀ I' J', ¬ sp_var x (2 ^ m) = 0 → rp_ac (I 66) n = 0 → mr_I I I' → mr_J J J' → Q (-3) Ω I' J') (hQ : ∀ S I' J', x = nI S → S < 2 ^ m → ¬ rp_ac (I 66) n = 0 → mr_I I I' → mr_J J J' → Q (rx_res I n m S) Ω I' J') : aw_Call G MX8_working d 0 0 [.ref (aw_ad G 65), .int x] Ω I J (aw_QI Q) := by
  refine aw_enter (by decide +kernel) rfl (Nat.le_of_ble_eq_true rfl) ?_
  show AW G MX8_working (aw_nx Ω) d 0 0 (aw_QI Q) Ω I J 0 0 [.ref (aw_ad G 65), .int x] 0 []
  refine aw_aload_n dX8_working_0 rfl ?_
  refine aw_iload_n dX8_working_1 rfl ?_
  refine aw_cvI (As := [_]) (d' := d - 1) dX8_working_2 lkX8_187 hM.o (by omega) rfl rfl (Nat.le_of_ble_eq_true rfl) ⟨Nat.le_refl _, Nat.le_refl _⟩ (tX8_isSet hM hm hm6 (by omega) ?_)
  refine aw_if_ne (t := 13) dX8_working_5 (by decide) (fun h1 => ?_) (fun h1 => ?_)
  · skip
    refine aw_aload_n dX8_working_13 rfl ?_
    refine aw_cvI (As := []) (d' := d - 1) dX8_working_14 lkX8_146 hM.o (by omega) rfl rfl (Nat.le_of_ble_eq_true rfl) ⟨Nat.le_refl _, Nat.le_refl _⟩ (tX8_proper hM hn hn3 (by omega) ?_)
    · skip
      intro I0 J0 fI0 fJ0
      have hn0 : I0 65 0 = nI n := by rw [fI0 65 0 (by decide) (by decide)]; exact hn
      have hm0 : I0 65 4 = nI m := by rw [fI0 65 4 (by decide) (by decide)]; exact hm
      have ht0 : I0 65 3 = I 65 3 := fI0 65 3 (by decide) (by decide)
      refine aw_if_ne (t := 25) dX8_working_17 (by decide) (fun h2 => ?_) (fun h2 => ?_)
      · skip
        obtain ⟨S, hS, rfl⟩ := sp_var1 h1
        refine aw_aload_n dX8_working_25 rfl ?_
        refine aw_iload_n dX8_working_26 rfl ?_
        refine aw_cvI (As := [_]) (d' := d - 1) dX8_working_27 lkX8_190 hM.o (by omega) rfl rfl (Nat.le_of_ble_eq_true rfl) ⟨Nat.le_refl _, Nat.le_refl _⟩ (tX8_works hM hn0 hn3 hm0 hm6 hS (by omega) ?_ ?_)
        · skip
          intro I1 J1 a1 b1 f1
          rw [show cx_find (rx_gb I0 n m (nI (S)) (I0 65 3)) (nI (S)) (S + 1) 0 = rx_res I n m (S) from rx_res_c fI0.E ht0] at f1
          have fI1 := fI0.tr a1
          have fJ1 := fJ0.tr b1
          have q9 := hQ S I1 J1 rfl hS h2 fI1 fJ1
          rw [f1] at q9
          exact aw_iret dX8_working_30 rfl (q9) (Nat.zero_le _) (Nat.zero_le _)
        · skip
          intro w I1 J1 hw a1 b1 g1 A1 f1
          rw [show cx_find (rx_gb I0 n m (nI (S)) (I0 65 3)) (nI (S)) (S + 1) 0 = rx_res I n m (S) from rx_res_c fI0.E ht0] at f1
          rw [rx_find_c (S := S) fI0.E, ht0] at g1
          rw [rx_At_c fI0.E, ht0] at A1
          have fI1 := fI0.tr a1
          have fJ1 := fJ0.tr b1
          have h64 : 2 ^ m ≤ 2 ^ 6 := Nat.pow_le_pow_right (by decide) hm6
          have hne : ¬ nI w = -1 := fun q => absurd (show (0 : Int32) ≤ -1 from q ▸ nI_pos' (by omega)) (by decide)
          have q9 := hQ S I1 J1 rfl hS h2 fI1 fJ1
          rw [f1] at q9
          exact aw_iret dX8_working_30 rfl (q9) (Nat.zero_le _) (Nat.zero_le _)
      · skip
        refine aw_bipush (v := -3) dX8_working_20 (by decide) ?_
        refine aw_goto (t := 30) dX8_working_22 (by decide) ?_
        exact aw_iret dX8_working_30 rfl (kS I0 J0 h1 h2 fI0 fJ0) (Nat.zero_le _) (Nat.zero_le _)
  · skip
    refine aw_bipush (v := -2) dX8_working_8 (by decide) ?_
    refine aw_goto (t := 30) dX8_working_10 (by decide) ?_
    exact aw_iret dX8_working_30 rfl (kB h1) (Nat.zero_le _) (Nat.zero_le _)
theorem tX8_lacks0 {G : aw_G} {d : Nat} {Ω : aw_O} {I : aw_MI} {J : aw_MJ} {Q : Int32 → aw_O → aw_MI → aw_MJ → Prop} {m : Nat} {x : Int32} (hM : aw_model Ω 65) (hm : I 65 4 = nI m) (hm6 : m ≤ 6) (hd : 2 ≤ d) (hQ : Q (-2) Ω I J) : aw_Call G MX8_lacks d 0 0 [.ref (aw_ad G 65), .int x, .int (nI 0)] Ω I J (aw_QI Q) := by
  refine aw_enter (by decide +kernel) rfl (Nat.le_of_ble_eq_true rfl) ?_
  show AW G MX8_lacks (aw_nx Ω) d 0 0 (aw_QI Q) Ω I J 0 0 [.ref (aw_ad G 65), .int x, .int (nI 0)] 0 []
  refine aw_aload_n dX8_lacks_0 rfl ?_
  refine aw_iload_n dX8_lacks_1 rfl ?_
  refine aw_cvI (As := [_]) (d' := d - 1) dX8_lacks_2 lkX8_187 hM.o (by omega) rfl rfl (Nat.le_of_ble_eq_true rfl) ⟨Nat.le_refl _, Nat.le_refl _⟩ (tX8_isSet hM hm hm6 (by omega) ?_)
  refine aw_if_eq (t := 12) dX8_lacks_5 (by decide) (fun h1 => ?_) (fun h1 => ?_)
  · skip
    refine aw_bipush (v := -2) dX8_lacks_12 (by decide) ?_
    refine aw_goto (t := 43) dX8_lacks_14 (by decide) ?_
    exact aw_iret dX8_lacks_43 rfl (hQ) (Nat.zero_le _) (Nat.zero_le _)
  · skip
    refine aw_iload_n dX8_lacks_8 rfl ?_
    refine aw_if_ne (t := 17) dX8_lacks_9 (by decide) (fun h2 => absurd h2 (by decide)) (fun h2 => ?_)
    refine aw_bipush (v := -2) dX8_lacks_12 (by decide) ?_
    refine aw_goto (t := 43) dX8_lacks_14 (by decide) ?_
    exact aw_iret dX8_lacks_43 rfl (hQ) (Nat.zero_le _) (Nat.zero_le _)
theorem tX8_lacks {G : aw_G} {d : Nat} {Ω : aw_O} {I : aw_MI} {J : aw_MJ} {Q : Int32 → aw_O → aw_MI → aw_MJ → Prop} {n m : Nat} (hM : aw_model Ω 65) (hn : I 65 0 = nI n) (hn3 : n ≤ 3) (hm : I 65 4 = nI m) (hm6 : m ≤ 6) {x : Int32} (hd : 6 ≤ d) (kB : sp_var x (2 ^ m) = 0 → Q (-2) Ω I J) (kS : ∀ I' J', ¬ sp_var x (2 ^ m) = 0 → rp_ac (I 66) n = 0 → mr_I I I' → mr_J J J' → Q (-3) Ω I' J') (kN : ∀ S I' J', x = nI S → S < 2 ^ m → ¬ rp_ac (I 66) n = 0 → mr_I I I' → mr_J J J' → rx_res I n m S = -1 → Q (-1) Ω I' J') (hQ : ∀ S w I' J', x = nI S → S < 2 ^ m → ¬ rp_ac (I 66) n = 0 → w ≤ S → mr_I I I' → mr_J J J' → rx_gb I n m (nI S) (I 65 3) w = true → rx_At I n m w (I 65 3) J' → rx_res I n m S = nI w → Q (nI 0) Ω I' J') : aw_Call G MX8_lacks d 0 0 [.ref (aw_ad G 65), .int x, .int (nI 1)] Ω I J (aw_QI Q) := by
  refine aw_enter (by decide +kernel) rfl (Nat.le_of_ble_eq_true rfl) ?_
  show AW G MX8_lacks (aw_nx Ω) d 0 0 (aw_QI Q) Ω I J 0 0 [.ref (aw_ad G 65), .int x, .int (nI 1)] 0 []
  refine aw_aload_n dX8_lacks_0 rfl ?_
  refine aw_iload_n dX8_lacks_1 rfl ?_
  refine aw_cvI (As := [_]) (d' := d - 1) dX8_lacks_2 lkX8_187 hM.o (by omega) rfl rfl (Nat.le_of_ble_eq_true rfl) ⟨Nat.le_refl _, Nat.le_refl _⟩ (tX8_isSet hM hm hm6 (by omega) ?_)
  refine aw_if_eq (t := 12) dX8_lacks_5 (by decide) (fun h1 => ?_) (fun h1 => ?_)
  · skip
    refine aw_bipush (v := -2) dX8_lacks_12 (by decide) ?_
    refine aw_goto (t := 43) dX8_lacks_14 (by decide) ?_
    exact aw_iret dX8_lacks_43 rfl (kB h1) (Nat.zero_le _) (Nat.zero_le _)
  · skip
    refine aw_iload_n dX8_lacks_8 rfl ?_
    refine aw_if_ne (t := 17) dX8_lacks_9 (by decide) (fun h2 => ?_) (fun h2 => absurd h2 (by decide))
    refine aw_aload_n dX8_lacks_17 rfl ?_
    refine aw_cvI (As := []) (d' := d - 1) dX8_lacks_18 lkX8_146 hM.o (by omega) rfl rfl (Nat.le_of_ble_eq_true rfl) ⟨Nat.le_refl _, Nat.le_refl _⟩ (tX8_proper hM hn hn3 (by omega) ?_)
    · skip
      intro I0 J0 fI0 fJ0
      have hn0 : I0 65 0 = nI n := by rw [fI0 65 0 (by decide) (by decide)]; exact hn
      have hm0 : I0 65 4 = nI m := by rw [fI0 65 4 (by decide) (by decide)]; exact hm
      have ht0 : I0 65 3 = I 65 3 := fI0 65 3 (by decide) (by decide)
      refine aw_if_ne (t := 29) dX8_lacks_21 (by decide) (fun h3 => ?_) (fun h3 => ?_)
      · skip
        obtain ⟨S, hS, rfl⟩ := sp_var1 h1
        refine aw_aload_n dX8_lacks_29 rfl ?_
        refine aw_iload_n dX8_lacks_30 rfl ?_
        refine aw_cvI (As := [_]) (d' := d - 1) dX8_lacks_31 lkX8_190 hM.o (by omega) rfl rfl (Nat.le_of_ble_eq_true rfl) ⟨Nat.le_refl _, Nat.le_refl _⟩ (tX8_works hM hn0 hn3 hm0 hm6 hS (by omega) ?_ ?_)
        · skip
          intro I1 J1 a1 b1 f1
          rw [show cx_find (rx_gb I0 n m (nI (S)) (I0 65 3)) (nI (S)) (S + 1) 0 = rx_res I n m (S) from rx_res_c fI0.E ht0] at f1
          have fI1 := fI0.tr a1
          have fJ1 := fJ0.tr b1
          refine aw_iconst (v := -1) dX8_lacks_34 (by decide) ?_
          refine aw_icmp_ne (t := 42) dX8_lacks_35 (by decide) (fun h4 => absurd h4 (by decide)) (fun h4 => ?_)
          refine aw_iconst (v := -1) dX8_lacks_38 (by decide) ?_
          refine aw_goto (t := 43) dX8_lacks_39 (by decide) ?_
          exact aw_iret dX8_lacks_43 rfl (kN S I1 J1 rfl hS h3 fI1 fJ1 f1) (Nat.zero_le _) (Nat.zero_le _)
        · skip
          intro w I1 J1 hw a1 b1 g1 A1 f1
          rw [show cx_find (rx_gb I0 n m (nI (S)) (I0 65 3)) (nI (S)) (S + 1) 0 = rx_res I n m (S) from rx_res_c fI0.E ht0] at f1
          rw [rx_find_c (S := S) fI0.E, ht0] at g1
          rw [rx_At_c fI0.E, ht0] at A1
          have fI1 := fI0.tr a1
          have fJ1 := fJ0.tr b1
          have h64 : 2 ^ m ≤ 2 ^ 6 := Nat.pow_le_pow_right (by decide) hm6
          have hne : ¬ nI w = -1 := fun q => absurd (show (0 : Int32) ≤ -1 from q ▸ nI_pos' (by omega)) (by decide)
          refine aw_iconst (v := -1) dX8_lacks_34 (by decide) ?_
          refine aw_icmp_ne (t := 42) dX8_lacks_35 (by decide) (fun h5 => ?_) (fun h5 => ?_)
          · skip
            refine aw_iconst (v := nI 0) dX8_lacks_42 (by decide) ?_
            exact aw_iret dX8_lacks_43 rfl (hQ S w I1 J1 rfl hS h3 hw fI1 fJ1 g1 A1 f1) (Nat.zero_le _) (Nat.zero_le _)
          · skip
            exact absurd h5 hne
      · skip
        refine aw_bipush (v := -3) dX8_lacks_24 (by decide) ?_
        refine aw_goto (t := 43) dX8_lacks_26 (by decide) ?_
        exact aw_iret dX8_lacks_43 rfl (kS I0 J0 h1 h3 fI0 fJ0) (Nat.zero_le _) (Nat.zero_le _)
theorem sp_varS {S N : Nat} (h : S < N) (hN : N < 2 ^ 31) : sp_var (nI S) N = nI 1 := by
  unfold sp_var
  rw [if_neg (nI_pos (by omega)), if_pos ((nI_ltI (by omega) hN).mpr h)]
theorem tX8_answer {G : aw_G} {d : Nat} {Ω : aw_O} {I : aw_MI} {J : aw_MJ} {Q : Int64 → aw_O → aw_MI → aw_MJ → Prop} {n m : Nat} (hM : aw_model Ω 65) (hn : I 65 0 = nI n) (hn3 : n ≤ 3) (hm : I 65 4 = nI m) (hm6 : m ≤ 6) {x y v : Int32} (hd : 7 ≤ d) (kB : (sp_var x (2 ^ m) = 0 ∨ sp_var y n = 0 ∨ sp_part v = 0) → Q (-4611686018427387904 + (-2 : Int32).toInt64) Ω I J) (kS : ∀ I' J', ¬ (sp_var x (2 ^ m) = 0 ∨ sp_var y n = 0 ∨ sp_part v = 0) → rp_ac (I 66) n = 0 → mr_I I I' → mr_J J J' → Q (-4611686018427387904 + (-3 : Int32).toInt64) Ω I' J') (kN : ∀ S i I' J', x = nI S → S < 2 ^ m → y = nI i → i < n → ¬ (sp_var x (2 ^ m) = 0 ∨ sp_var y n = 0 ∨ sp_part v = 0) → ¬ rp_ac (I 66) n = 0 → mr_I I I' → mr_J J J' → rx_res I n m S = -1 → Q (-4611686018427387904 + (-1 : Int32).toInt64) Ω I' J') (hQ : ∀ S i w I' J', x = nI S → S < 2 ^ m → y = nI i → i < n → ¬ (sp_var x (2 ^ m) = 0 ∨ sp_var y n = 0 ∨ sp_part v = 0) → ¬ rp_ac (I 66) n = 0 → w ≤ S → mr_I I I' → mr_J J J' → rx_gb I n m (nI S) (I 65 3) w = true → rx_res I n m S = nI w → Q (lw_v (rx_v I n m w (I 65 3) i) (rx_b I n m w) v) Ω I' J') : aw_Call G MX8_answer d 0 0 [.ref (aw_ad G 65), .int x, .int y, .int v] Ω I J (aw_QL Q) := by
  refine aw_enter (by decide +kernel) rfl (Nat.le_of_ble_eq_true rfl) ?_
  show AW G MX8_answer (aw_nx Ω) d 0 0 (aw_QL Q) Ω I J 0 0 [.ref (aw_ad G 65), .int x, .int y, .int v, .null] 0 []
  refine aw_aload_n dX8_answer_0 rfl ?_
  refine aw_iload_n dX8_answer_1 rfl ?_
  refine aw_aload_n dX8_answer_2 rfl ?_
  refine aw_iload_n dX8_answer_3 rfl ?_
  refine aw_cvI (As := [_]) (d' := d - 1) dX8_answer_4 lkX8_96 hM.o (by omega) rfl rfl (Nat.le_of_ble_eq_true rfl) ⟨Nat.le_refl _, Nat.le_refl _⟩ (tX8_isVariable hM hn hn3 (by omega) ?_)
  refine aw_pc (pc2 := 7) rfl ?_
  refine aw_if_eq (t := 21) dX8_answer_7 (by decide) (fun h1 => ?_) (fun h1 => ?_)
  · skip
    refine aw_iconst (v := nI 0) dX8_answer_21 (by decide) ?_
    refine aw_cvI (As := [_, _]) (d' := d - 1) dX8_answer_22 lkX8_196 hM.o (by omega) rfl rfl (Nat.le_of_ble_eq_true rfl) ⟨Nat.le_refl _, Nat.le_refl _⟩ (tX8_lacks0 hM hm hm6 (by omega) ?_)
    · skip
      refine aw_istore dX8_answer_25 (by decide) ?_
      refine aw_lv (lv2 := [.ref _, .int _, .int _, .int _, .int _]) rfl ?_
      refine aw_iload dX8_answer_27 rfl ?_
      refine aw_if_eq (t := 40) dX8_answer_29 (by decide) (fun h2 => absurd h2 (by decide)) (fun h2 => ?_)
      refine aw_iload dX8_answer_32 rfl ?_
      refine aw_csL (As := [_]) (d' := d - 1) dX8_answer_34 lkX8_200 (by omega) rfl rfl (Nat.le_of_ble_eq_true rfl) ⟨Nat.le_refl _, Nat.le_refl _⟩ (tX8_refused ?_)
      refine aw_pc (pc2 := 37) rfl ?_
      refine aw_goto (t := 54) dX8_answer_37 (by decide) ?_
      exact aw_lret dX8_answer_54 rfl (kB (Or.inr (Or.inl h1))) (Nat.zero_le _) (Nat.zero_le _)
  · skip
    have kh1 := h1
    obtain ⟨i, hi, rfl⟩ := sp_var1 h1
    refine aw_iload_n dX8_answer_10 rfl ?_
    refine aw_csI (As := [_]) (d' := d - 1) dX8_answer_11 lkX8_193 (by omega) rfl rfl (Nat.le_of_ble_eq_true rfl) ⟨Nat.le_refl _, Nat.le_refl _⟩ (tX8_isPart ?_)
    refine aw_if_eq (t := 21) dX8_answer_14 (by decide) (fun h3 => ?_) (fun h3 => ?_)
    · skip
      refine aw_iconst (v := nI 0) dX8_answer_21 (by decide) ?_
      refine aw_cvI (As := [_, _]) (d' := d - 1) dX8_answer_22 lkX8_196 hM.o (by omega) rfl rfl (Nat.le_of_ble_eq_true rfl) ⟨Nat.le_refl _, Nat.le_refl _⟩ (tX8_lacks0 hM hm hm6 (by omega) ?_)
      · skip
        refine aw_istore dX8_answer_25 (by decide) ?_
        refine aw_lv (lv2 := [.ref _, .int _, .int _, .int _, .int _]) rfl ?_
        refine aw_iload dX8_answer_27 rfl ?_
        refine aw_if_eq (t := 40) dX8_answer_29 (by decide) (fun h4 => absurd h4 (by decide)) (fun h4 => ?_)
        refine aw_iload dX8_answer_32 rfl ?_
        refine aw_csL (As := [_]) (d' := d - 1) dX8_answer_34 lkX8_200 (by omega) rfl rfl (Nat.le_of_ble_eq_true rfl) ⟨Nat.le_refl _, Nat.le_refl _⟩ (tX8_refused ?_)
        refine aw_pc (pc2 := 37) rfl ?_
        refine aw_goto (t := 54) dX8_answer_37 (by decide) ?_
        exact aw_lret dX8_answer_54 rfl (kB (Or.inr (Or.inr (h3)))) (Nat.zero_le _) (Nat.zero_le _)
    · skip
      refine aw_iconst (v := nI 1) dX8_answer_17 (by decide) ?_
      refine aw_goto (t := 22) dX8_answer_18 (by decide) ?_
      refine aw_cvI (As := [_, _]) (d' := d - 1) dX8_answer_22 lkX8_196 hM.o (by omega) rfl rfl (Nat.le_of_ble_eq_true rfl) ⟨Nat.le_refl _, Nat.le_refl _⟩ (tX8_lacks hM hn hn3 hm hm6 (by omega) ?_ ?_ ?_ ?_)
      · skip
        intro kb
        refine aw_istore dX8_answer_25 (by decide) ?_
        refine aw_lv (lv2 := [.ref _, .int _, .int _, .int _, .int _]) rfl ?_
        refine aw_iload dX8_answer_27 rfl ?_
        refine aw_if_eq (t := 40) dX8_answer_29 (by decide) (fun h5 => absurd h5 (by decide)) (fun h5 => ?_)
        refine aw_iload dX8_answer_32 rfl ?_
        refine aw_csL (As := [_]) (d' := d - 1) dX8_answer_34 lkX8_200 (by omega) rfl rfl (Nat.le_of_ble_eq_true rfl) ⟨Nat.le_refl _, Nat.le_refl _⟩ (tX8_refused ?_)
        refine aw_pc (pc2 := 37) rfl ?_
        refine aw_goto (t := 54) dX8_answer_37 (by decide) ?_
        exact aw_lret dX8_answer_54 rfl (kB (Or.inl kb)) (Nat.zero_le _) (Nat.zero_le _)
      · skip
        intro I1 J1 kb p0 fI1 fJ1
        refine aw_istore dX8_answer_25 (by decide) ?_
        refine aw_lv (lv2 := [.ref _, .int _, .int _, .int _, .int _]) rfl ?_
        refine aw_iload dX8_answer_27 rfl ?_
        refine aw_if_eq (t := 40) dX8_answer_29 (by decide) (fun h6 => absurd h6 (by decide)) (fun h6 => ?_)
        refine aw_iload dX8_answer_32 rfl ?_
        refine aw_csL (As := [_]) (d' := d - 1) dX8_answer_34 lkX8_200 (by omega) rfl rfl (Nat.le_of_ble_eq_true rfl) ⟨Nat.le_refl _, Nat.le_refl _⟩ (tX8_refused ?_)
        refine aw_pc (pc2 := 37) rfl ?_
        refine aw_goto (t := 54) dX8_answer_37 (by decide) ?_
        exact aw_lret dX8_answer_54 rfl (kS I1 J1 (fun q8 => q8.elim kb (fun q9 => q9.elim h1 (fun q9 => h3 q9))) p0 fI1 fJ1) (Nat.zero_le _) (Nat.zero_le _)
      · skip
        intro S I1 J1 eS hS p0 fI1 fJ1 f1
        refine aw_istore dX8_answer_25 (by decide) ?_
        refine aw_lv (lv2 := [.ref _, .int _, .int _, .int _, .int _]) rfl ?_
        refine aw_iload dX8_answer_27 rfl ?_
        refine aw_if_eq (t := 40) dX8_answer_29 (by decide) (fun h7 => absurd h7 (by decide)) (fun h7 => ?_)
        refine aw_iload dX8_answer_32 rfl ?_
        refine aw_csL (As := [_]) (d' := d - 1) dX8_answer_34 lkX8_200 (by omega) rfl rfl (Nat.le_of_ble_eq_true rfl) ⟨Nat.le_refl _, Nat.le_refl _⟩ (tX8_refused ?_)
        refine aw_pc (pc2 := 37) rfl ?_
        refine aw_goto (t := 54) dX8_answer_37 (by decide) ?_
        have kbn : ¬ sp_var x (2 ^ m) = 0 := by rw [eS, sp_varS hS (by have h64 : 2 ^ m ≤ 2 ^ 6 := Nat.pow_le_pow_right (by decide) hm6; omega)]; decide
        exact aw_lret dX8_answer_54 rfl (kN S i I1 J1 eS hS rfl hi (fun q8 => q8.elim kbn (fun q9 => q9.elim h1 (fun q9 => h3 q9))) p0 fI1 fJ1 f1) (Nat.zero_le _) (Nat.zero_le _)
      · skip
        intro S w I1 J1 eS hS p0 hw fI1 fJ1 g1 A1 f1
        have hn1 : I1 65 0 = nI n := by rw [fI1 65 0 (by decide) (by decide)]; exact hn
        have hm1 : I1 65 4 = nI m := by rw [fI1 65 4 (by decide) (by decide)]; exact hm
        have ht1 : I1 65 3 = I 65 3 := fI1 65 3 (by decide) (by decide)
        have hE1 := fI1.E
        have bne := rx_bne g1
        refine aw_istore dX8_answer_25 (by decide) ?_
        refine aw_lv (lv2 := [.ref _, .int _, .int _, .int _, .int _]) rfl ?_
        refine aw_iload dX8_answer_27 rfl ?_
        refine aw_if_eq (t := 40) dX8_answer_29 (by decide) (fun h8 => ?_) (fun h8 => absurd h8 (by decide))
        refine aw_aload_n dX8_answer_40 rfl ?_
        refine aw_getR dX8_answer_41 flX8_36 hM.o hM.p16 ?_
        refine aw_pc (pc2 := 44) rfl ?_
        refine aw_iload_n dX8_answer_44 rfl ?_
        refine aw_laldv (v := rx_v I n m w (I 65 3) i) dX8_answer_45 hM.s16 rfl (by omega) (A1.2.1 i hi) ?_
        refine aw_aload_n dX8_answer_46 rfl ?_
        refine aw_getJ dX8_answer_47 flX8_161 hM.o ?_
        refine aw_toL (A1.1) ?_
        refine aw_iload_n dX8_answer_50 rfl ?_
        refine aw_csL (As := [_, _, _]) (d' := d - 1) dX8_answer_51 lkX8_203 (by omega) rfl rfl (Nat.le_of_ble_eq_true rfl) ⟨Nat.le_refl _, Nat.le_refl _⟩ (tX8_low bne (by omega) ?_)
        refine aw_pc (pc2 := 54) rfl ?_
        have kbn : ¬ sp_var x (2 ^ m) = 0 := by rw [eS, sp_varS hS (by have h64 : 2 ^ m ≤ 2 ^ 6 := Nat.pow_le_pow_right (by decide) hm6; omega)]; decide
        exact aw_lret dX8_answer_54 rfl (hQ S i w I1 J1 eS hS rfl hi (fun q8 => q8.elim kbn (fun q9 => q9.elim h1 (fun q9 => h3 q9))) p0 hw fI1 fJ1 g1 f1) (Nat.zero_le _) (Nat.zero_le _)
def rx_wo (I : aw_MI) (n m w : Nat) (t : Int32) : Int64 := sp_w2 (sp_w1 (I 67) (rx_v I n m w t) n) (fun l => rp_bd I l t) (rx_y I n m w t) m
def rp_wo (I : aw_MI) (J : aw_MJ) (n m : Nat) : Int64 := sp_w2 (sp_w1 (I 67) (J 73) n) (fun l => rp_bd I l (I 65 3)) (J 74) m
theorem rp_wo_at {I I' : aw_MI} {J : aw_MJ} {n m w : Nat} {t : Int32} (hE : rx_E I I') (ht : I' 65 3 = t) (hm : m ≤ 6) (hA : rx_At I n m w t J) : rp_wo I' J n m = rx_wo I n m w t := by
  unfold rp_wo rx_wo
  rw [ht, hE.2.1, sp_w1_c (fun i hi => hA.2.1 i hi)]
  exact sp_w2_c (fun l _ => rp_bd_c hE.2.2) (fun l hl => hA.2.2 l (by omega))
theorem lX8_worthOf2 {G : aw_G} {d : Nat} {Ω : aw_O} {I : aw_MI} {J : aw_MJ} {Q : Int64 → aw_O → aw_MI → aw_MJ → Prop} {n m : Nat} (hM : aw_model Ω 65) (hn : I 65 0 = nI n) (hn3 : n ≤ 3) (hm : I 65 4 = nI m) (hm6 : m ≤ 6) (hd : 1 ≤ d) (hQ : Q (rp_wo I J n m) Ω I J) : ∀ (z i : Nat), i ≤ m → m - i < z → AW G MX8_worthOf (aw_nx Ω) d 0 0 (aw_QL Q) Ω I J 0 0 [.ref (aw_ad G 65), .long (sp_w2 (sp_w1 (I 67) (J 73) n) (fun l => rp_bd I l (I 65 3)) (J 74) i), .null, .int (nI i)] 37 [] := by
  intro z
  induction z with
  | zero =>
    intro i h0 hz
    exact absurd hz (by omega)
  | succ z ih =>
    intro i h0 hz
    refine aw_iload_n dX8_worthOf_37 rfl ?_
    refine aw_aload_n dX8_worthOf_38 rfl ?_
    refine aw_getIv (v := nI m) dX8_worthOf_39 flX8_88 hM.o hm ?_
    refine aw_geN (t := 67) dX8_worthOf_42 (by decide) (by omega) (by omega) (fun h1 => ?_) (fun h1 => ?_)
    · skip
      refine aw_lload_n dX8_worthOf_67 rfl ?_
      exact aw_lret dX8_worthOf_68 rfl ((by rw [show i = m from by omega]; exact hQ)) (Nat.zero_le _) (Nat.zero_le _)
    · skip
      refine aw_lload_n dX8_worthOf_45 rfl ?_
      refine aw_aload_n dX8_worthOf_46 rfl ?_
      refine aw_iload_n dX8_worthOf_47 rfl ?_
      refine aw_cvI (As := [_]) (d' := d - 1) dX8_worthOf_48 lkX8_125 hM.o (by omega) rfl rfl (Nat.le_of_ble_eq_true rfl) ⟨Nat.le_refl _, Nat.le_refl _⟩ (tX8_bound hM (by omega) ?_)
      refine aw_i2l dX8_worthOf_51 ?_
      refine aw_pc (pc2 := 52) rfl ?_
      refine aw_aload_n dX8_worthOf_52 rfl ?_
      refine aw_getR dX8_worthOf_53 flX8_39 hM.o hM.p17 ?_
      refine aw_iload_n dX8_worthOf_56 rfl ?_
      refine aw_lald dX8_worthOf_57 hM.s17 rfl (by omega) ?_
      refine aw_lmul dX8_worthOf_58 ?_
      refine aw_lsub dX8_worthOf_59 ?_
      refine aw_pc (pc2 := 60) rfl ?_
      refine aw_lstore_n dX8_worthOf_60 (by decide) ?_
      refine aw_lv (lv2 := [.ref _, .long _, .null, .int _]) rfl ?_
      refine aw_iincN dX8_worthOf_61 rfl (by decide) ?_
      refine aw_lv (lv2 := [.ref _, .long _, .null, .int _]) rfl ?_
      refine aw_goto (t := 37) dX8_worthOf_64 (by decide) ?_
      exact ih (i + 1) (by omega) (by omega)
theorem lX8_worthOf1 {G : aw_G} {d : Nat} {Ω : aw_O} {I : aw_MI} {J : aw_MJ} {Q : Int64 → aw_O → aw_MI → aw_MJ → Prop} {n m : Nat} (hM : aw_model Ω 65) (hn : I 65 0 = nI n) (hn3 : n ≤ 3) (hm : I 65 4 = nI m) (hm6 : m ≤ 6) (hd : 1 ≤ d) (hQ : Q (rp_wo I J n m) Ω I J) : ∀ (z i : Nat), i ≤ n → n - i < z → AW G MX8_worthOf (aw_nx Ω) d 0 0 (aw_QL Q) Ω I J 0 0 [.ref (aw_ad G 65), .long (sp_w1 (I 67) (J 73) i), .null, .int (nI i)] 4 [] := by
  intro z
  induction z with
  | zero =>
    intro i h0 hz
    exact absurd hz (by omega)
  | succ z ih =>
    intro i h0 hz
    refine aw_iload_n dX8_worthOf_4 rfl ?_
    refine aw_aload_n dX8_worthOf_5 rfl ?_
    refine aw_getIv (v := nI n) dX8_worthOf_6 flX8_7 hM.o hn ?_
    refine aw_geN (t := 35) dX8_worthOf_9 (by decide) (by omega) (by omega) (fun h1 => ?_) (fun h1 => ?_)
    · skip
      refine aw_iconst (v := nI 0) dX8_worthOf_35 (by decide) ?_
      refine aw_istore_n dX8_worthOf_36 (by decide) ?_
      refine aw_lv (lv2 := [.ref _, .long _, .null, .int _]) rfl ?_
      rw [show i = n from by omega]
      exact lX8_worthOf2 hM hn hn3 hm hm6 hd hQ (m + 1) 0 (by omega) (by omega)
    · skip
      refine aw_lload_n dX8_worthOf_12 rfl ?_
      refine aw_aload_n dX8_worthOf_13 rfl ?_
      refine aw_getR dX8_worthOf_14 flX8_17 hM.o hM.p2 ?_
      refine aw_iload_n dX8_worthOf_17 rfl ?_
      refine aw_iald dX8_worthOf_18 hM.s2 rfl (by omega) ?_
      refine aw_pc (pc2 := 19) rfl ?_
      refine aw_i2l dX8_worthOf_19 ?_
      refine aw_aload_n dX8_worthOf_20 rfl ?_
      refine aw_getR dX8_worthOf_21 flX8_36 hM.o hM.p16 ?_
      refine aw_iload_n dX8_worthOf_24 rfl ?_
      refine aw_lald dX8_worthOf_25 hM.s16 rfl (by omega) ?_
      refine aw_lmul dX8_worthOf_26 ?_
      refine aw_pc (pc2 := 27) rfl ?_
      refine aw_ladd dX8_worthOf_27 ?_
      refine aw_lstore_n dX8_worthOf_28 (by decide) ?_
      refine aw_lv (lv2 := [.ref _, .long _, .null, .int _]) rfl ?_
      refine aw_iincN dX8_worthOf_29 rfl (by decide) ?_
      refine aw_lv (lv2 := [.ref _, .long _, .null, .int _]) rfl ?_
      refine aw_goto (t := 4) dX8_worthOf_32 (by decide) ?_
      exact ih (i + 1) (by omega) (by omega)
theorem tX8_worthOf {G : aw_G} {d : Nat} {Ω : aw_O} {I : aw_MI} {J : aw_MJ} {Q : Int64 → aw_O → aw_MI → aw_MJ → Prop} {n m : Nat} (hM : aw_model Ω 65) (hn : I 65 0 = nI n) (hn3 : n ≤ 3) (hm : I 65 4 = nI m) (hm6 : m ≤ 6) (hd : 1 ≤ d) (hQ : Q (rp_wo I J n m) Ω I J) : aw_Call G MX8_worthOf d 0 0 [.ref (aw_ad G 65)] Ω I J (aw_QL Q) := by
  refine aw_enter (by decide +kernel) rfl (Nat.le_of_ble_eq_true rfl) ?_
  show AW G MX8_worthOf (aw_nx Ω) d 0 0 (aw_QL Q) Ω I J 0 0 [.ref (aw_ad G 65), .null, .null, .null] 0 []
  refine aw_lconst (v := 0) dX8_worthOf_0 (by decide) ?_
  refine aw_lstore_n dX8_worthOf_1 (by decide) ?_
  refine aw_lv (lv2 := [.ref _, .long _, .null, .null]) rfl ?_
  refine aw_iconst (v := nI 0) dX8_worthOf_2 (by decide) ?_
  refine aw_istore_n dX8_worthOf_3 (by decide) ?_
  refine aw_lv (lv2 := [.ref _, .long _, .null, .int _]) rfl ?_
  exact lX8_worthOf1 hM hn hn3 hm hm6 hd hQ (n + 1) 0 (by omega) (by omega)
theorem tX8_worth {G : aw_G} {d : Nat} {Ω : aw_O} {I : aw_MI} {J : aw_MJ} {Q : Int64 → aw_O → aw_MI → aw_MJ → Prop} {n m : Nat} (hM : aw_model Ω 65) (hn : I 65 0 = nI n) (hn3 : n ≤ 3) (hm : I 65 4 = nI m) (hm6 : m ≤ 6) {x v : Int32} (hd : 7 ≤ d) (h2 : ∀ S w, S < 2 ^ m → w ≤ S → ¬ rp_ac (I 66) n = 0 → rx_gb I n m (nI S) (I 65 3) w = true → ¬ 2 * rx_b I n m w = 0) (kB : (sp_var x (2 ^ m) = 0 ∨ sp_part v = 0) → Q (-4611686018427387904 + (-2 : Int32).toInt64) Ω I J) (kS : ∀ I' J', ¬ (sp_var x (2 ^ m) = 0 ∨ sp_part v = 0) → rp_ac (I 66) n = 0 → mr_I I I' → mr_J J J' → Q (-4611686018427387904 + (-3 : Int32).toInt64) Ω I' J') (kN : ∀ S I' J', x = nI S → S < 2 ^ m → ¬ (sp_var x (2 ^ m) = 0 ∨ sp_part v = 0) → ¬ rp_ac (I 66) n = 0 → mr_I I I' → mr_J J J' → rx_res I n m S = -1 → Q (-4611686018427387904 + (-1 : Int32).toInt64) Ω I' J') (hQ : ∀ S w I' J', x = nI S → S < 2 ^ m → ¬ (sp_var x (2 ^ m) = 0 ∨ sp_part v = 0) → ¬ rp_ac (I 66) n = 0 → w ≤ S → mr_I I I' → mr_J J J' → rx_gb I n m (nI S) (I 65 3) w = true → rx_res I n m S = nI w → Q (lw_v (rx_wo I n m w (I 65 3)) (2 * rx_b I n m w) v) Ω I' J') : aw_Call G MX8_worth d 0 0 [.ref (aw_ad G 65), .int x, .int v] Ω I J (aw_QL Q) := by
  refine aw_enter (by decide +kernel) rfl (Nat.le_of_ble_eq_true rfl) ?_
  show AW G MX8_worth (aw_nx Ω) d 0 0 (aw_QL Q) Ω I J 0 0 [.ref (aw_ad G 65), .int x, .int v, .null] 0 []
  refine aw_aload_n dX8_worth_0 rfl ?_
  refine aw_iload_n dX8_worth_1 rfl ?_
  refine aw_iload_n dX8_worth_2 rfl ?_
  refine aw_csI (As := [_]) (d' := d - 1) dX8_worth_3 lkX8_193 (by omega) rfl rfl (Nat.le_of_ble_eq_true rfl) ⟨Nat.le_refl _, Nat.le_refl _⟩ (tX8_isPart2 ?_ ?_)
  · skip
    intro hp0
    refine aw_cvI (As := [_, _]) (d' := d - 1) dX8_worth_6 lkX8_196 hM.o (by omega) rfl rfl (Nat.le_of_ble_eq_true rfl) ⟨Nat.le_refl _, Nat.le_refl _⟩ (tX8_lacks0 hM hm hm6 (by omega) ?_)
    · skip
      refine aw_istore_n dX8_worth_9 (by decide) ?_
      refine aw_lv (lv2 := [.ref _, .int _, .int _, .int _]) rfl ?_
      refine aw_iload_n dX8_worth_10 rfl ?_
      refine aw_if_eq (t := 21) dX8_worth_11 (by decide) (fun h1 => absurd h1 (by decide)) (fun h1 => ?_)
      refine aw_iload_n dX8_worth_14 rfl ?_
      refine aw_csL (As := [_]) (d' := d - 1) dX8_worth_15 lkX8_200 (by omega) rfl rfl (Nat.le_of_ble_eq_true rfl) ⟨Nat.le_refl _, Nat.le_refl _⟩ (tX8_refused ?_)
      refine aw_pc (pc2 := 18) rfl ?_
      refine aw_goto (t := 37) dX8_worth_18 (by decide) ?_
      exact aw_lret dX8_worth_37 rfl (kB (Or.inr hp0)) (Nat.zero_le _) (Nat.zero_le _)
  · skip
    intro hp0
    refine aw_cvI (As := [_, _]) (d' := d - 1) dX8_worth_6 lkX8_196 hM.o (by omega) rfl rfl (Nat.le_of_ble_eq_true rfl) ⟨Nat.le_refl _, Nat.le_refl _⟩ (tX8_lacks hM hn hn3 hm hm6 (by omega) ?_ ?_ ?_ ?_)
    · skip
      intro kb
      refine aw_istore_n dX8_worth_9 (by decide) ?_
      refine aw_lv (lv2 := [.ref _, .int _, .int _, .int _]) rfl ?_
      refine aw_iload_n dX8_worth_10 rfl ?_
      refine aw_if_eq (t := 21) dX8_worth_11 (by decide) (fun h2 => absurd h2 (by decide)) (fun h2 => ?_)
      refine aw_iload_n dX8_worth_14 rfl ?_
      refine aw_csL (As := [_]) (d' := d - 1) dX8_worth_15 lkX8_200 (by omega) rfl rfl (Nat.le_of_ble_eq_true rfl) ⟨Nat.le_refl _, Nat.le_refl _⟩ (tX8_refused ?_)
      refine aw_pc (pc2 := 18) rfl ?_
      refine aw_goto (t := 37) dX8_worth_18 (by decide) ?_
      exact aw_lret dX8_worth_37 rfl (kB (Or.inl kb)) (Nat.zero_le _) (Nat.zero_le _)
    · skip
      intro I1 J1 kb p0 fI1 fJ1
      refine aw_istore_n dX8_worth_9 (by decide) ?_
      refine aw_lv (lv2 := [.ref _, .int _, .int _, .int _]) rfl ?_
      refine aw_iload_n dX8_worth_10 rfl ?_
      refine aw_if_eq (t := 21) dX8_worth_11 (by decide) (fun h3 => absurd h3 (by decide)) (fun h3 => ?_)
      refine aw_iload_n dX8_worth_14 rfl ?_
      refine aw_csL (As := [_]) (d' := d - 1) dX8_worth_15 lkX8_200 (by omega) rfl rfl (Nat.le_of_ble_eq_true rfl) ⟨Nat.le_refl _, Nat.le_refl _⟩ (tX8_refused ?_)
      refine aw_pc (pc2 := 18) rfl ?_
      refine aw_goto (t := 37) dX8_worth_18 (by decide) ?_
      exact aw_lret dX8_worth_37 rfl (kS I1 J1 (fun q8 => q8.elim kb hp0) p0 fI1 fJ1) (Nat.zero_le _) (Nat.zero_le _)
    · skip
      intro S I1 J1 eS hS p0 fI1 fJ1 f1
      refine aw_istore_n dX8_worth_9 (by decide) ?_
      refine aw_lv (lv2 := [.ref _, .int _, .int _, .int _]) rfl ?_
      refine aw_iload_n dX8_worth_10 rfl ?_
      refine aw_if_eq (t := 21) dX8_worth_11 (by decide) (fun h4 => absurd h4 (by decide)) (fun h4 => ?_)
      refine aw_iload_n dX8_worth_14 rfl ?_
      refine aw_csL (As := [_]) (d' := d - 1) dX8_worth_15 lkX8_200 (by omega) rfl rfl (Nat.le_of_ble_eq_true rfl) ⟨Nat.le_refl _, Nat.le_refl _⟩ (tX8_refused ?_)
      refine aw_pc (pc2 := 18) rfl ?_
      refine aw_goto (t := 37) dX8_worth_18 (by decide) ?_
      have kbn : ¬ sp_var x (2 ^ m) = 0 := by rw [eS, sp_varS hS (by have h64 : 2 ^ m ≤ 2 ^ 6 := Nat.pow_le_pow_right (by decide) hm6; omega)]; decide
      exact aw_lret dX8_worth_37 rfl (kN S I1 J1 eS hS (fun q8 => q8.elim kbn hp0) p0 fI1 fJ1 f1) (Nat.zero_le _) (Nat.zero_le _)
    · skip
      intro S w I1 J1 eS hS p0 hw fI1 fJ1 g1 A1 f1
      have hn1 : I1 65 0 = nI n := by rw [fI1 65 0 (by decide) (by decide)]; exact hn
      have hm1 : I1 65 4 = nI m := by rw [fI1 65 4 (by decide) (by decide)]; exact hm
      have ht1 : I1 65 3 = I 65 3 := fI1 65 3 (by decide) (by decide)
      have hE1 := fI1.E
      have bne := rx_bne g1
      refine aw_istore_n dX8_worth_9 (by decide) ?_
      refine aw_lv (lv2 := [.ref _, .int _, .int _, .int _]) rfl ?_
      refine aw_iload_n dX8_worth_10 rfl ?_
      refine aw_if_eq (t := 21) dX8_worth_11 (by decide) (fun h5 => ?_) (fun h5 => absurd h5 (by decide))
      refine aw_aload_n dX8_worth_21 rfl ?_
      refine aw_cvL (As := []) (d' := d - 1) dX8_worth_22 lkX8_207 hM.o (by omega) rfl rfl (Nat.le_of_ble_eq_true rfl) ⟨Nat.le_refl _, Nat.le_refl _⟩ (tX8_worthOf hM hn1 hn3 hm1 hm6 (by omega) ?_)
      refine aw_toL (rp_wo_at hE1 ht1 hm6 A1) ?_
      refine aw_pc (pc2 := 25) rfl ?_
      refine aw_ldc2 (v := 2) dX8_worth_25 (aw_pl 928 (by decide +kernel) rfl) ?_
      refine aw_aload_n dX8_worth_28 rfl ?_
      refine aw_getJ dX8_worth_29 flX8_161 hM.o ?_
      refine aw_toL (A1.1) ?_
      refine aw_lmul dX8_worth_32 ?_
      refine aw_iload_n dX8_worth_33 rfl ?_
      refine aw_csL (As := [_, _, _]) (d' := d - 1) dX8_worth_34 lkX8_203 (by omega) rfl rfl (Nat.le_of_ble_eq_true rfl) ⟨Nat.le_refl _, Nat.le_refl _⟩ (tX8_low (h2 S w hS hw p0 g1) (by omega) ?_)
      refine aw_pc (pc2 := 37) rfl ?_
      have kbn : ¬ sp_var x (2 ^ m) = 0 := by rw [eS, sp_varS hS (by have h64 : 2 ^ m ≤ 2 ^ 6 := Nat.pow_le_pow_right (by decide) hm6; omega)]; decide
      exact aw_lret dX8_worth_37 rfl (hQ S w I1 J1 eS hS (fun q8 => q8.elim kbn hp0) p0 hw fI1 fJ1 g1 f1) (Nat.zero_le _) (Nat.zero_le _)
theorem tX8_weight {G : aw_G} {d : Nat} {Ω : aw_O} {I : aw_MI} {J : aw_MJ} {Q : Int64 → aw_O → aw_MI → aw_MJ → Prop} {n m : Nat} (hM : aw_model Ω 65) (hn : I 65 0 = nI n) (hn3 : n ≤ 3) (hm : I 65 4 = nI m) (hm6 : m ≤ 6) {x y v : Int32} (hd : 7 ≤ d) (kB : (sp_var x (2 ^ m) = 0 ∨ sp_var y m = 0 ∨ sp_has x y = 0 ∨ sp_part v = 0) → Q (-4611686018427387904 + (-2 : Int32).toInt64) Ω I J) (kS : ∀ I' J', ¬ (sp_var x (2 ^ m) = 0 ∨ sp_var y m = 0 ∨ sp_has x y = 0 ∨ sp_part v = 0) → rp_ac (I 66) n = 0 → mr_I I I' → mr_J J J' → Q (-4611686018427387904 + (-3 : Int32).toInt64) Ω I' J') (kN : ∀ S i I' J', x = nI S → S < 2 ^ m → y = nI i → i < m → ¬ (sp_var x (2 ^ m) = 0 ∨ sp_var y m = 0 ∨ sp_has x y = 0 ∨ sp_part v = 0) → ¬ rp_ac (I 66) n = 0 → mr_I I I' → mr_J J J' → rx_res I n m S = -1 → Q (-4611686018427387904 + (-1 : Int32).toInt64) Ω I' J') (hQ : ∀ S i w I' J', x = nI S → S < 2 ^ m → y = nI i → i < m → ¬ (sp_var x (2 ^ m) = 0 ∨ sp_var y m = 0 ∨ sp_has x y = 0 ∨ sp_part v = 0) → ¬ rp_ac (I 66) n = 0 → w ≤ S → mr_I I I' → mr_J J J' → rx_gb I n m (nI S) (I 65 3) w = true → rx_res I n m S = nI w → Q (lw_v (rx_y I n m w (I 65 3) i) (rx_b I n m w) v) Ω I' J') : aw_Call G MX8_weight d 0 0 [.ref (aw_ad G 65), .int x, .int y, .int v] Ω I J (aw_QL Q) := by
  refine aw_enter (by decide +kernel) rfl (Nat.le_of_ble_eq_true rfl) ?_
  show AW G MX8_weight (aw_nx Ω) d 0 0 (aw_QL Q) Ω I J 0 0 [.ref (aw_ad G 65), .int x, .int y, .int v, .null] 0 []
  refine aw_aload_n dX8_weight_0 rfl ?_
  refine aw_iload_n dX8_weight_1 rfl ?_
  refine aw_aload_n dX8_weight_2 rfl ?_
  refine aw_iload_n dX8_weight_3 rfl ?_
  refine aw_cvI (As := [_]) (d' := d - 1) dX8_weight_4 lkX8_114 hM.o (by omega) rfl rfl (Nat.le_of_ble_eq_true rfl) ⟨Nat.le_refl _, Nat.le_refl _⟩ (tX8_isLine hM hm hm6 (by omega) ?_)
  refine aw_pc (pc2 := 7) rfl ?_
  refine aw_if_eq (t := 29) dX8_weight_7 (by decide) (fun h1 => ?_) (fun h1 => ?_)
  · skip
    refine aw_iconst (v := nI 0) dX8_weight_29 (by decide) ?_
    refine aw_cvI (As := [_, _]) (d' := d - 1) dX8_weight_30 lkX8_196 hM.o (by omega) rfl rfl (Nat.le_of_ble_eq_true rfl) ⟨Nat.le_refl _, Nat.le_refl _⟩ (tX8_lacks0 hM hm hm6 (by omega) ?_)
    · skip
      refine aw_istore dX8_weight_33 (by decide) ?_
      refine aw_lv (lv2 := [.ref _, .int _, .int _, .int _, .int _]) rfl ?_
      refine aw_iload dX8_weight_35 rfl ?_
      refine aw_if_eq (t := 48) dX8_weight_37 (by decide) (fun h2 => absurd h2 (by decide)) (fun h2 => ?_)
      refine aw_iload dX8_weight_40 rfl ?_
      refine aw_csL (As := [_]) (d' := d - 1) dX8_weight_42 lkX8_200 (by omega) rfl rfl (Nat.le_of_ble_eq_true rfl) ⟨Nat.le_refl _, Nat.le_refl _⟩ (tX8_refused ?_)
      refine aw_pc (pc2 := 45) rfl ?_
      refine aw_goto (t := 62) dX8_weight_45 (by decide) ?_
      exact aw_lret dX8_weight_62 rfl (kB (Or.inr (Or.inl h1))) (Nat.zero_le _) (Nat.zero_le _)
  · skip
    have kh1 := h1
    obtain ⟨i, hi, rfl⟩ := sp_var1 h1
    refine aw_iload_n dX8_weight_10 rfl ?_
    refine aw_iload_n dX8_weight_11 rfl ?_
    refine aw_csI (As := [_, _]) (d' := d - 1) dX8_weight_12 lkX8_135 (by omega) rfl rfl (Nat.le_of_ble_eq_true rfl) ⟨Nat.le_refl _, Nat.le_refl _⟩ (tX8_has ?_)
    refine aw_if_eq (t := 29) dX8_weight_15 (by decide) (fun h3 => ?_) (fun h3 => ?_)
    · skip
      refine aw_iconst (v := nI 0) dX8_weight_29 (by decide) ?_
      refine aw_cvI (As := [_, _]) (d' := d - 1) dX8_weight_30 lkX8_196 hM.o (by omega) rfl rfl (Nat.le_of_ble_eq_true rfl) ⟨Nat.le_refl _, Nat.le_refl _⟩ (tX8_lacks0 hM hm hm6 (by omega) ?_)
      · skip
        refine aw_istore dX8_weight_33 (by decide) ?_
        refine aw_lv (lv2 := [.ref _, .int _, .int _, .int _, .int _]) rfl ?_
        refine aw_iload dX8_weight_35 rfl ?_
        refine aw_if_eq (t := 48) dX8_weight_37 (by decide) (fun h4 => absurd h4 (by decide)) (fun h4 => ?_)
        refine aw_iload dX8_weight_40 rfl ?_
        refine aw_csL (As := [_]) (d' := d - 1) dX8_weight_42 lkX8_200 (by omega) rfl rfl (Nat.le_of_ble_eq_true rfl) ⟨Nat.le_refl _, Nat.le_refl _⟩ (tX8_refused ?_)
        refine aw_pc (pc2 := 45) rfl ?_
        refine aw_goto (t := 62) dX8_weight_45 (by decide) ?_
        exact aw_lret dX8_weight_62 rfl (kB (Or.inr (Or.inr (Or.inl h3)))) (Nat.zero_le _) (Nat.zero_le _)
    · skip
      refine aw_iload_n dX8_weight_18 rfl ?_
      refine aw_csI (As := [_]) (d' := d - 1) dX8_weight_19 lkX8_193 (by omega) rfl rfl (Nat.le_of_ble_eq_true rfl) ⟨Nat.le_refl _, Nat.le_refl _⟩ (tX8_isPart ?_)
      refine aw_if_eq (t := 29) dX8_weight_22 (by decide) (fun h5 => ?_) (fun h5 => ?_)
      · skip
        refine aw_iconst (v := nI 0) dX8_weight_29 (by decide) ?_
        refine aw_cvI (As := [_, _]) (d' := d - 1) dX8_weight_30 lkX8_196 hM.o (by omega) rfl rfl (Nat.le_of_ble_eq_true rfl) ⟨Nat.le_refl _, Nat.le_refl _⟩ (tX8_lacks0 hM hm hm6 (by omega) ?_)
        · skip
          refine aw_istore dX8_weight_33 (by decide) ?_
          refine aw_lv (lv2 := [.ref _, .int _, .int _, .int _, .int _]) rfl ?_
          refine aw_iload dX8_weight_35 rfl ?_
          refine aw_if_eq (t := 48) dX8_weight_37 (by decide) (fun h6 => absurd h6 (by decide)) (fun h6 => ?_)
          refine aw_iload dX8_weight_40 rfl ?_
          refine aw_csL (As := [_]) (d' := d - 1) dX8_weight_42 lkX8_200 (by omega) rfl rfl (Nat.le_of_ble_eq_true rfl) ⟨Nat.le_refl _, Nat.le_refl _⟩ (tX8_refused ?_)
          refine aw_pc (pc2 := 45) rfl ?_
          refine aw_goto (t := 62) dX8_weight_45 (by decide) ?_
          exact aw_lret dX8_weight_62 rfl (kB (Or.inr (Or.inr (Or.inr (h5))))) (Nat.zero_le _) (Nat.zero_le _)
      · skip
        refine aw_iconst (v := nI 1) dX8_weight_25 (by decide) ?_
        refine aw_goto (t := 30) dX8_weight_26 (by decide) ?_
        refine aw_cvI (As := [_, _]) (d' := d - 1) dX8_weight_30 lkX8_196 hM.o (by omega) rfl rfl (Nat.le_of_ble_eq_true rfl) ⟨Nat.le_refl _, Nat.le_refl _⟩ (tX8_lacks hM hn hn3 hm hm6 (by omega) ?_ ?_ ?_ ?_)
        · skip
          intro kb
          refine aw_istore dX8_weight_33 (by decide) ?_
          refine aw_lv (lv2 := [.ref _, .int _, .int _, .int _, .int _]) rfl ?_
          refine aw_iload dX8_weight_35 rfl ?_
          refine aw_if_eq (t := 48) dX8_weight_37 (by decide) (fun h7 => absurd h7 (by decide)) (fun h7 => ?_)
          refine aw_iload dX8_weight_40 rfl ?_
          refine aw_csL (As := [_]) (d' := d - 1) dX8_weight_42 lkX8_200 (by omega) rfl rfl (Nat.le_of_ble_eq_true rfl) ⟨Nat.le_refl _, Nat.le_refl _⟩ (tX8_refused ?_)
          refine aw_pc (pc2 := 45) rfl ?_
          refine aw_goto (t := 62) dX8_weight_45 (by decide) ?_
          exact aw_lret dX8_weight_62 rfl (kB (Or.inl kb)) (Nat.zero_le _) (Nat.zero_le _)
        · skip
          intro I1 J1 kb p0 fI1 fJ1
          refine aw_istore dX8_weight_33 (by decide) ?_
          refine aw_lv (lv2 := [.ref _, .int _, .int _, .int _, .int _]) rfl ?_
          refine aw_iload dX8_weight_35 rfl ?_
          refine aw_if_eq (t := 48) dX8_weight_37 (by decide) (fun h8 => absurd h8 (by decide)) (fun h8 => ?_)
          refine aw_iload dX8_weight_40 rfl ?_
          refine aw_csL (As := [_]) (d' := d - 1) dX8_weight_42 lkX8_200 (by omega) rfl rfl (Nat.le_of_ble_eq_true rfl) ⟨Nat.le_refl _, Nat.le_refl _⟩ (tX8_refused ?_)
          refine aw_pc (pc2 := 45) rfl ?_
          refine aw_goto (t := 62) dX8_weight_45 (by decide) ?_
          exact aw_lret dX8_weight_62 rfl (kS I1 J1 (fun q8 => q8.elim kb (fun q9 => q9.elim h1 (fun q9 => q9.elim h3 (fun q9 => h5 q9)))) p0 fI1 fJ1) (Nat.zero_le _) (Nat.zero_le _)
        · skip
          intro S I1 J1 eS hS p0 fI1 fJ1 f1
          refine aw_istore dX8_weight_33 (by decide) ?_
          refine aw_lv (lv2 := [.ref _, .int _, .int _, .int _, .int _]) rfl ?_
          refine aw_iload dX8_weight_35 rfl ?_
          refine aw_if_eq (t := 48) dX8_weight_37 (by decide) (fun h9 => absurd h9 (by decide)) (fun h9 => ?_)
          refine aw_iload dX8_weight_40 rfl ?_
          refine aw_csL (As := [_]) (d' := d - 1) dX8_weight_42 lkX8_200 (by omega) rfl rfl (Nat.le_of_ble_eq_true rfl) ⟨Nat.le_refl _, Nat.le_refl _⟩ (tX8_refused ?_)
          refine aw_pc (pc2 := 45) rfl ?_
          refine aw_goto (t := 62) dX8_weight_45 (by decide) ?_
          have kbn : ¬ sp_var x (2 ^ m) = 0 := by rw [eS, sp_varS hS (by have h64 : 2 ^ m ≤ 2 ^ 6 := Nat.pow_le_pow_right (by decide) hm6; omega)]; decide
          exact aw_lret dX8_weight_62 rfl (kN S i I1 J1 eS hS rfl hi (fun q8 => q8.elim kbn (fun q9 => q9.elim h1 (fun q9 => q9.elim h3 (fun q9 => h5 q9)))) p0 fI1 fJ1 f1) (Nat.zero_le _) (Nat.zero_le _)
        · skip
          intro S w I1 J1 eS hS p0 hw fI1 fJ1 g1 A1 f1
          have hn1 : I1 65 0 = nI n := by rw [fI1 65 0 (by decide) (by decide)]; exact hn
          have hm1 : I1 65 4 = nI m := by rw [fI1 65 4 (by decide) (by decide)]; exact hm
          have ht1 : I1 65 3 = I 65 3 := fI1 65 3 (by decide) (by decide)
          have hE1 := fI1.E
          have bne := rx_bne g1
          refine aw_istore dX8_weight_33 (by decide) ?_
          refine aw_lv (lv2 := [.ref _, .int _, .int _, .int _, .int _]) rfl ?_
          refine aw_iload dX8_weight_35 rfl ?_
          refine aw_if_eq (t := 48) dX8_weight_37 (by decide) (fun h10 => ?_) (fun h10 => absurd h10 (by decide))
          refine aw_aload_n dX8_weight_48 rfl ?_
          refine aw_getR dX8_weight_49 flX8_39 hM.o hM.p17 ?_
          refine aw_pc (pc2 := 52) rfl ?_
          refine aw_iload_n dX8_weight_52 rfl ?_
          refine aw_laldv (v := rx_y I n m w (I 65 3) i) dX8_weight_53 hM.s17 rfl (by omega) (A1.2.2 i (by omega)) ?_
          refine aw_aload_n dX8_weight_54 rfl ?_
          refine aw_getJ dX8_weight_55 flX8_161 hM.o ?_
          refine aw_toL (A1.1) ?_
          refine aw_iload_n dX8_weight_58 rfl ?_
          refine aw_csL (As := [_, _, _]) (d' := d - 1) dX8_weight_59 lkX8_203 (by omega) rfl rfl (Nat.le_of_ble_eq_true rfl) ⟨Nat.le_refl _, Nat.le_refl _⟩ (tX8_low bne (by omega) ?_)
          refine aw_pc (pc2 := 62) rfl ?_
          have kbn : ¬ sp_var x (2 ^ m) = 0 := by rw [eS, sp_varS hS (by have h64 : 2 ^ m ≤ 2 ^ 6 := Nat.pow_le_pow_right (by decide) hm6; omega)]; decide
          exact aw_lret dX8_weight_62 rfl (hQ S i w I1 J1 eS hS rfl hi (fun q8 => q8.elim kbn (fun q9 => q9.elim h1 (fun q9 => q9.elim h3 (fun q9 => h5 q9)))) p0 hw fI1 fJ1 g1 f1) (Nat.zero_le _) (Nat.zero_le _)
theorem tX8_slack {G : aw_G} {d : Nat} {Ω : aw_O} {I : aw_MI} {J : aw_MJ} {Q : Int64 → aw_O → aw_MI → aw_MJ → Prop} {n m : Nat} (hM : aw_model Ω 65) (hn : I 65 0 = nI n) (hn3 : n ≤ 3) (hm : I 65 4 = nI m) (hm6 : m ≤ 6) {x y v : Int32} (hd : 7 ≤ d) (kB : (sp_var x (2 ^ m) = 0 ∨ sp_var y m = 0 ∨ sp_part v = 0) → Q (-4611686018427387904 + (-2 : Int32).toInt64) Ω I J) (kS : ∀ I' J', ¬ (sp_var x (2 ^ m) = 0 ∨ sp_var y m = 0 ∨ sp_part v = 0) → rp_ac (I 66) n = 0 → mr_I I I' → mr_J J J' → Q (-4611686018427387904 + (-3 : Int32).toInt64) Ω I' J') (kN : ∀ S i I' J', x = nI S → S < 2 ^ m → y = nI i → i < m → ¬ (sp_var x (2 ^ m) = 0 ∨ sp_var y m = 0 ∨ sp_part v = 0) → ¬ rp_ac (I 66) n = 0 → mr_I I I' → mr_J J J' → rx_res I n m S = -1 → Q (-4611686018427387904 + (-1 : Int32).toInt64) Ω I' J') (hQ : ∀ S i w I' J', x = nI S → S < 2 ^ m → y = nI i → i < m → ¬ (sp_var x (2 ^ m) = 0 ∨ sp_var y m = 0 ∨ sp_part v = 0) → ¬ rp_ac (I 66) n = 0 → w ≤ S → mr_I I I' → mr_J J J' → rx_gb I n m (nI S) (I 65 3) w = true → rx_res I n m S = nI w → Q (lw_v (rx_sl I n m w (I 65 3) i) (rx_b I n m w) v) Ω I' J') : aw_Call G MX8_slack d 0 0 [.ref (aw_ad G 65), .int x, .int y, .int v] Ω I J (aw_QL Q) := by
  refine aw_enter (by decide +kernel) rfl (Nat.le_of_ble_eq_true rfl) ?_
  show AW G MX8_slack (aw_nx Ω) d 0 0 (aw_QL Q) Ω I J 0 0 [.ref (aw_ad G 65), .int x, .int y, .int v, .null] 0 []
  refine aw_aload_n dX8_slack_0 rfl ?_
  refine aw_iload_n dX8_slack_1 rfl ?_
  refine aw_aload_n dX8_slack_2 rfl ?_
  refine aw_iload_n dX8_slack_3 rfl ?_
  refine aw_cvI (As := [_]) (d' := d - 1) dX8_slack_4 lkX8_114 hM.o (by omega) rfl rfl (Nat.le_of_ble_eq_true rfl) ⟨Nat.le_refl _, Nat.le_refl _⟩ (tX8_isLine hM hm hm6 (by omega) ?_)
  refine aw_pc (pc2 := 7) rfl ?_
  refine aw_if_eq (t := 21) dX8_slack_7 (by decide) (fun h1 => ?_) (fun h1 => ?_)
  · skip
    refine aw_iconst (v := nI 0) dX8_slack_21 (by decide) ?_
    refine aw_cvI (As := [_, _]) (d' := d - 1) dX8_slack_22 lkX8_196 hM.o (by omega) rfl rfl (Nat.le_of_ble_eq_true rfl) ⟨Nat.le_refl _, Nat.le_refl _⟩ (tX8_lacks0 hM hm hm6 (by omega) ?_)
    · skip
      refine aw_istore dX8_slack_25 (by decide) ?_
      refine aw_lv (lv2 := [.ref _, .int _, .int _, .int _, .int _]) rfl ?_
      refine aw_iload dX8_slack_27 rfl ?_
      refine aw_if_eq (t := 40) dX8_slack_29 (by decide) (fun h2 => absurd h2 (by decide)) (fun h2 => ?_)
      refine aw_iload dX8_slack_32 rfl ?_
      refine aw_csL (As := [_]) (d' := d - 1) dX8_slack_34 lkX8_200 (by omega) rfl rfl (Nat.le_of_ble_eq_true rfl) ⟨Nat.le_refl _, Nat.le_refl _⟩ (tX8_refused ?_)
      refine aw_pc (pc2 := 37) rfl ?_
      refine aw_goto (t := 53) dX8_slack_37 (by decide) ?_
      exact aw_lret dX8_slack_53 rfl (kB (Or.inr (Or.inl h1))) (Nat.zero_le _) (Nat.zero_le _)
  · skip
    have kh1 := h1
    obtain ⟨i, hi, rfl⟩ := sp_var1 h1
    refine aw_iload_n dX8_slack_10 rfl ?_
    refine aw_csI (As := [_]) (d' := d - 1) dX8_slack_11 lkX8_193 (by omega) rfl rfl (Nat.le_of_ble_eq_true rfl) ⟨Nat.le_refl _, Nat.le_refl _⟩ (tX8_isPart ?_)
    refine aw_if_eq (t := 21) dX8_slack_14 (by decide) (fun h3 => ?_) (fun h3 => ?_)
    · skip
      refine aw_iconst (v := nI 0) dX8_slack_21 (by decide) ?_
      refine aw_cvI (As := [_, _]) (d' := d - 1) dX8_slack_22 lkX8_196 hM.o (by omega) rfl rfl (Nat.le_of_ble_eq_true rfl) ⟨Nat.le_refl _, Nat.le_refl _⟩ (tX8_lacks0 hM hm hm6 (by omega) ?_)
      · skip
        refine aw_istore dX8_slack_25 (by decide) ?_
        refine aw_lv (lv2 := [.ref _, .int _, .int _, .int _, .int _]) rfl ?_
        refine aw_iload dX8_slack_27 rfl ?_
        refine aw_if_eq (t := 40) dX8_slack_29 (by decide) (fun h4 => absurd h4 (by decide)) (fun h4 => ?_)
        refine aw_iload dX8_slack_32 rfl ?_
        refine aw_csL (As := [_]) (d' := d - 1) dX8_slack_34 lkX8_200 (by omega) rfl rfl (Nat.le_of_ble_eq_true rfl) ⟨Nat.le_refl _, Nat.le_refl _⟩ (tX8_refused ?_)
        refine aw_pc (pc2 := 37) rfl ?_
        refine aw_goto (t := 53) dX8_slack_37 (by decide) ?_
        exact aw_lret dX8_slack_53 rfl (kB (Or.inr (Or.inr (h3)))) (Nat.zero_le _) (Nat.zero_le _)
    · skip
      refine aw_iconst (v := nI 1) dX8_slack_17 (by decide) ?_
      refine aw_goto (t := 22) dX8_slack_18 (by decide) ?_
      refine aw_cvI (As := [_, _]) (d' := d - 1) dX8_slack_22 lkX8_196 hM.o (by omega) rfl rfl (Nat.le_of_ble_eq_true rfl) ⟨Nat.le_refl _, Nat.le_refl _⟩ (tX8_lacks hM hn hn3 hm hm6 (by omega) ?_ ?_ ?_ ?_)
      · skip
        intro kb
        refine aw_istore dX8_slack_25 (by decide) ?_
        refine aw_lv (lv2 := [.ref _, .int _, .int _, .int _, .int _]) rfl ?_
        refine aw_iload dX8_slack_27 rfl ?_
        refine aw_if_eq (t := 40) dX8_slack_29 (by decide) (fun h5 => absurd h5 (by decide)) (fun h5 => ?_)
        refine aw_iload dX8_slack_32 rfl ?_
        refine aw_csL (As := [_]) (d' := d - 1) dX8_slack_34 lkX8_200 (by omega) rfl rfl (Nat.le_of_ble_eq_true rfl) ⟨Nat.le_refl _, Nat.le_refl _⟩ (tX8_refused ?_)
        refine aw_pc (pc2 := 37) rfl ?_
        refine aw_goto (t := 53) dX8_slack_37 (by decide) ?_
        exact aw_lret dX8_slack_53 rfl (kB (Or.inl kb)) (Nat.zero_le _) (Nat.zero_le _)
      · skip
        intro I1 J1 kb p0 fI1 fJ1
        refine aw_istore dX8_slack_25 (by decide) ?_
        refine aw_lv (lv2 := [.ref _, .int _, .int _, .int _, .int _]) rfl ?_
        refine aw_iload dX8_slack_27 rfl ?_
        refine aw_if_eq (t := 40) dX8_slack_29 (by decide) (fun h6 => absurd h6 (by decide)) (fun h6 => ?_)
        refine aw_iload dX8_slack_32 rfl ?_
        refine aw_csL (As := [_]) (d' := d - 1) dX8_slack_34 lkX8_200 (by omega) rfl rfl (Nat.le_of_ble_eq_true rfl) ⟨Nat.le_refl _, Nat.le_refl _⟩ (tX8_refused ?_)
        refine aw_pc (pc2 := 37) rfl ?_
        refine aw_goto (t := 53) dX8_slack_37 (by decide) ?_
        exact aw_lret dX8_slack_53 rfl (kS I1 J1 (fun q8 => q8.elim kb (fun q9 => q9.elim h1 (fun q9 => h3 q9))) p0 fI1 fJ1) (Nat.zero_le _) (Nat.zero_le _)
      · skip
        intro S I1 J1 eS hS p0 fI1 fJ1 f1
        refine aw_istore dX8_slack_25 (by decide) ?_
        refine aw_lv (lv2 := [.ref _, .int _, .int _, .int _, .int _]) rfl ?_
        refine aw_iload dX8_slack_27 rfl ?_
        refine aw_if_eq (t := 40) dX8_slack_29 (by decide) (fun h7 => absurd h7 (by decide)) (fun h7 => ?_)
        refine aw_iload dX8_slack_32 rfl ?_
        refine aw_csL (As := [_]) (d' := d - 1) dX8_slack_34 lkX8_200 (by omega) rfl rfl (Nat.le_of_ble_eq_true rfl) ⟨Nat.le_refl _, Nat.le_refl _⟩ (tX8_refused ?_)
        refine aw_pc (pc2 := 37) rfl ?_
        refine aw_goto (t := 53) dX8_slack_37 (by decide) ?_
        have kbn : ¬ sp_var x (2 ^ m) = 0 := by rw [eS, sp_varS hS (by have h64 : 2 ^ m ≤ 2 ^ 6 := Nat.pow_le_pow_right (by decide) hm6; omega)]; decide
        exact aw_lret dX8_slack_53 rfl (kN S i I1 J1 eS hS rfl hi (fun q8 => q8.elim kbn (fun q9 => q9.elim h1 (fun q9 => h3 q9))) p0 fI1 fJ1 f1) (Nat.zero_le _) (Nat.zero_le _)
      · skip
        intro S w I1 J1 eS hS p0 hw fI1 fJ1 g1 A1 f1
        have hn1 : I1 65 0 = nI n := by rw [fI1 65 0 (by decide) (by decide)]; exact hn
        have hm1 : I1 65 4 = nI m := by rw [fI1 65 4 (by decide) (by decide)]; exact hm
        have ht1 : I1 65 3 = I 65 3 := fI1 65 3 (by decide) (by decide)
        have hE1 := fI1.E
        have bne := rx_bne g1
        refine aw_istore dX8_slack_25 (by decide) ?_
        refine aw_lv (lv2 := [.ref _, .int _, .int _, .int _, .int _]) rfl ?_
        refine aw_iload dX8_slack_27 rfl ?_
        refine aw_if_eq (t := 40) dX8_slack_29 (by decide) (fun h8 => ?_) (fun h8 => absurd h8 (by decide))
        refine aw_aload_n dX8_slack_40 rfl ?_
        refine aw_iload_n dX8_slack_41 rfl ?_
        refine aw_pc (pc2 := 42) rfl ?_
        refine aw_cvL (As := [_]) (d' := d - 1) dX8_slack_42 lkX8_172 hM.o (by omega) rfl rfl (Nat.le_of_ble_eq_true rfl) ⟨Nat.le_refl _, Nat.le_refl _⟩ (tX8_slackOf hM hn1 hn3 (by omega) (by omega) ?_)
        refine aw_toL (rp_slk_at hE1 ht1 A1) ?_
        refine aw_aload_n dX8_slack_45 rfl ?_
        refine aw_getJ dX8_slack_46 flX8_161 hM.o ?_
        refine aw_toL (A1.1) ?_
        refine aw_iload_n dX8_slack_49 rfl ?_
        refine aw_csL (As := [_, _, _]) (d' := d - 1) dX8_slack_50 lkX8_203 (by omega) rfl rfl (Nat.le_of_ble_eq_true rfl) ⟨Nat.le_refl _, Nat.le_refl _⟩ (tX8_low bne (by omega) ?_)
        have kbn : ¬ sp_var x (2 ^ m) = 0 := by rw [eS, sp_varS hS (by have h64 : 2 ^ m ≤ 2 ^ 6 := Nat.pow_le_pow_right (by decide) hm6; omega)]; decide
        exact aw_lret dX8_slack_53 rfl (hQ S i w I1 J1 eS hS rfl hi (fun q8 => q8.elim kbn (fun q9 => q9.elim h1 (fun q9 => h3 q9))) p0 hw fI1 fJ1 g1 f1) (Nat.zero_le _) (Nat.zero_le _)
def rp_hb (I : aw_MI) (J : aw_MJ) (n l : Nat) : Bool := decide (¬ sp_held (I 68 (6 * l)) (rp_slk I J n l) = 0)
def rx_h (I : aw_MI) (n m : Nat) (t : Int32) (w : Nat) : Int32 := sp_or (fun l => decide (¬ sp_held (I 68 (6 * l)) (rx_sl I n m w t l) = 0)) m
def rx_ti (I : aw_MI) (n m : Nat) (t : Int32) (w : Nat) : Int32 := sp_or (fun l => decide (rx_sl I n m w t l = 0)) m
theorem rp_hb_at {I I' : aw_MI} {J : aw_MJ} {n m w : Nat} {t : Int32} (hE : rx_E I I') (ht : I' 65 3 = t) (hA : rx_At I n m w t J) : sp_or (rp_hb I' J n) m = rx_h I n m t w := by
  unfold rx_h
  refine sp_or_c (fun l _ => ?_)
  unfold rp_hb
  rw [rp_slk_at hE ht hA, hE.2.2]
theorem lX8_heldNow {G : aw_G} {d : Nat} {Ω : aw_O} {I : aw_MI} {J : aw_MJ} {Q : Int32 → aw_O → aw_MI → aw_MJ → Prop} {n m : Nat} (hM : aw_model Ω 65) (hn : I 65 0 = nI n) (hn3 : n ≤ 3) (hm : I 65 4 = nI m) (hm6 : m ≤ 6) (hd : 3 ≤ d) (hQ : Q (sp_or (rp_hb I J n) m) Ω I J) : ∀ (z i : Nat), i ≤ m → m - i < z → AW G MX8_heldNow (aw_nx Ω) d 0 0 (aw_QI Q) Ω I J 0 0 [.ref (aw_ad G 65), .int (sp_or (rp_hb I J n) i), .int (nI i)] 4 [] := by
  intro z
  induction z with
  | zero =>
    intro i h0 hz
    exact absurd hz (by omega)
  | succ z ih =>
    intro i h0 hz
    refine aw_iload_n dX8_heldNow_4 rfl ?_
    refine aw_aload_n dX8_heldNow_5 rfl ?_
    refine aw_getIv (v := nI m) dX8_heldNow_6 flX8_88 hM.o hm ?_
    refine aw_geN (t := 36) dX8_heldNow_9 (by decide) (by omega) (by omega) (fun h1 => ?_) (fun h1 => ?_)
    · skip
      refine aw_iload_n dX8_heldNow_36 rfl ?_
      exact aw_iret dX8_heldNow_37 rfl ((by rw [show i = m from by omega]; exact hQ)) (Nat.zero_le _) (Nat.zero_le _)
    · skip
      refine aw_iload_n dX8_heldNow_12 rfl ?_
      refine aw_aload_n dX8_heldNow_13 rfl ?_
      refine aw_iload_n dX8_heldNow_14 rfl ?_
      refine aw_cvI (As := [_]) (d' := d - 1) dX8_heldNow_15 lkX8_178 hM.o (by omega) rfl rfl (Nat.le_of_ble_eq_true rfl) ⟨Nat.le_refl _, Nat.le_refl _⟩ (tX8_holds hM hn hn3 (by omega) (by omega) ?_)
      refine aw_if_eq (t := 27) dX8_heldNow_18 (by decide) (fun h2 => ?_) (fun h2 => ?_)
      · skip
        refine aw_iconst (v := nI 0) dX8_heldNow_27 (by decide) ?_
        refine aw_ior dX8_heldNow_28 ?_
        refine aw_istore_n dX8_heldNow_29 (by decide) ?_
        refine aw_lv (lv2 := [.ref _, .int _, .int _]) rfl ?_
        refine aw_iincN dX8_heldNow_30 rfl (by decide) ?_
        refine aw_lv (lv2 := [.ref _, .int _, .int _]) rfl ?_
        refine aw_goto (t := 4) dX8_heldNow_33 (by decide) ?_
        rw [sp_or_f (f := rp_hb I J n) (fun q => of_decide_eq_true q h2)]
        exact ih (i + 1) (by omega) (by omega)
      · skip
        refine aw_iconst (v := nI 1) dX8_heldNow_21 (by decide) ?_
        refine aw_iload_n dX8_heldNow_22 rfl ?_
        refine aw_ishl dX8_heldNow_23 ?_
        refine aw_goto (t := 28) dX8_heldNow_24 (by decide) ?_
        refine aw_ior dX8_heldNow_28 ?_
        refine aw_istore_n dX8_heldNow_29 (by decide) ?_
        refine aw_lv (lv2 := [.ref _, .int _, .int _]) rfl ?_
        refine aw_iincN dX8_heldNow_30 rfl (by decide) ?_
        refine aw_lv (lv2 := [.ref _, .int _, .int _]) rfl ?_
        refine aw_goto (t := 4) dX8_heldNow_33 (by decide) ?_
        rw [sp_or_t (f := rp_hb I J n) (decide_eq_true h2)]
        exact ih (i + 1) (by omega) (by omega)
theorem tX8_heldNow {G : aw_G} {d : Nat} {Ω : aw_O} {I : aw_MI} {J : aw_MJ} {Q : Int32 → aw_O → aw_MI → aw_MJ → Prop} {n m : Nat} (hM : aw_model Ω 65) (hn : I 65 0 = nI n) (hn3 : n ≤ 3) (hm : I 65 4 = nI m) (hm6 : m ≤ 6) (hd : 3 ≤ d) (hQ : Q (sp_or (rp_hb I J n) m) Ω I J) : aw_Call G MX8_heldNow d 0 0 [.ref (aw_ad G 65)] Ω I J (aw_QI Q) := by
  refine aw_enter (by decide +kernel) rfl (Nat.le_of_ble_eq_true rfl) ?_
  show AW G MX8_heldNow (aw_nx Ω) d 0 0 (aw_QI Q) Ω I J 0 0 [.ref (aw_ad G 65), .null, .null] 0 []
  refine aw_iconst (v := nI 0) dX8_heldNow_0 (by decide) ?_
  refine aw_istore_n dX8_heldNow_1 (by decide) ?_
  refine aw_lv (lv2 := [.ref _, .int _, .null]) rfl ?_
  refine aw_iconst (v := nI 0) dX8_heldNow_2 (by decide) ?_
  refine aw_istore_n dX8_heldNow_3 (by decide) ?_
  refine aw_lv (lv2 := [.ref _, .int _, .int _]) rfl ?_
  exact lX8_heldNow hM hn hn3 hm hm6 hd hQ (m + 1) 0 (by omega) (by omega)
theorem tX8_held {G : aw_G} {d : Nat} {Ω : aw_O} {I : aw_MI} {J : aw_MJ} {Q : Int32 → aw_O → aw_MI → aw_MJ → Prop} {n m : Nat} (hM : aw_model Ω 65) (hn : I 65 0 = nI n) (hn3 : n ≤ 3) (hm : I 65 4 = nI m) (hm6 : m ≤ 6) {x : Int32} (hd : 7 ≤ d) (kB : sp_var x (2 ^ m) = 0 → Q (-2) Ω I J) (kS : ∀ I' J', ¬ sp_var x (2 ^ m) = 0 → rp_ac (I 66) n = 0 → mr_I I I' → mr_J J J' → Q (-3) Ω I' J') (kN : ∀ S I' J', x = nI S → S < 2 ^ m → ¬ sp_var x (2 ^ m) = 0 → ¬ rp_ac (I 66) n = 0 → mr_I I I' → mr_J J J' → rx_res I n m S = -1 → Q (-1) Ω I' J') (hQ : ∀ S w I' J', x = nI S → S < 2 ^ m → ¬ sp_var x (2 ^ m) = 0 → ¬ rp_ac (I 66) n = 0 → w ≤ S → mr_I I I' → mr_J J J' → rx_gb I n m (nI S) (I 65 3) w = true → rx_res I n m S = nI w → Q (rx_h I n m (I 65 3) w) Ω I' J') : aw_Call G MX8_held d 0 0 [.ref (aw_ad G 65), .int x] Ω I J (aw_QI Q) := by
  refine aw_enter (by decide +kernel) rfl (Nat.le_of_ble_eq_true rfl) ?_
  show AW G MX8_held (aw_nx Ω) d 0 0 (aw_QI Q) Ω I J 0 0 [.ref (aw_ad G 65), .int x, .null] 0 []
  refine aw_aload_n dX8_held_0 rfl ?_
  refine aw_iload_n dX8_held_1 rfl ?_
  refine aw_iconst (v := nI 1) dX8_held_2 (by decide) ?_
  refine aw_cvI (As := [_, _]) (d' := d - 1) dX8_held_3 lkX8_196 hM.o (by omega) rfl rfl (Nat.le_of_ble_eq_true rfl) ⟨Nat.le_refl _, Nat.le_refl _⟩ (tX8_lacks hM hn hn3 hm hm6 (by omega) ?_ ?_ ?_ ?_)
  · skip
    intro kb
    refine aw_istore_n dX8_held_6 (by decide) ?_
    refine aw_lv (lv2 := [.ref _, .int _, .int _]) rfl ?_
    refine aw_iload_n dX8_held_7 rfl ?_
    refine aw_if_eq (t := 15) dX8_held_8 (by decide) (fun h1 => absurd h1 (by decide)) (fun h1 => ?_)
    refine aw_iload_n dX8_held_11 rfl ?_
    refine aw_goto (t := 19) dX8_held_12 (by decide) ?_
    exact aw_iret dX8_held_19 rfl (kB kb) (Nat.zero_le _) (Nat.zero_le _)
  · skip
    intro I1 J1 kb p0 fI1 fJ1
    refine aw_istore_n dX8_held_6 (by decide) ?_
    refine aw_lv (lv2 := [.ref _, .int _, .int _]) rfl ?_
    refine aw_iload_n dX8_held_7 rfl ?_
    refine aw_if_eq (t := 15) dX8_held_8 (by decide) (fun h2 => absurd h2 (by decide)) (fun h2 => ?_)
    refine aw_iload_n dX8_held_11 rfl ?_
    refine aw_goto (t := 19) dX8_held_12 (by decide) ?_
    exact aw_iret dX8_held_19 rfl (kS I1 J1 kb p0 fI1 fJ1) (Nat.zero_le _) (Nat.zero_le _)
  · skip
    intro S I1 J1 eS hS p0 fI1 fJ1 f1
    refine aw_istore_n dX8_held_6 (by decide) ?_
    refine aw_lv (lv2 := [.ref _, .int _, .int _]) rfl ?_
    refine aw_iload_n dX8_held_7 rfl ?_
    refine aw_if_eq (t := 15) dX8_held_8 (by decide) (fun h3 => absurd h3 (by decide)) (fun h3 => ?_)
    refine aw_iload_n dX8_held_11 rfl ?_
    refine aw_goto (t := 19) dX8_held_12 (by decide) ?_
    have kbn : ¬ sp_var x (2 ^ m) = 0 := by rw [eS, sp_varS hS (by have h64 : 2 ^ m ≤ 2 ^ 6 := Nat.pow_le_pow_right (by decide) hm6; omega)]; decide
    exact aw_iret dX8_held_19 rfl (kN S I1 J1 eS hS kbn p0 fI1 fJ1 f1) (Nat.zero_le _) (Nat.zero_le _)
  · skip
    intro S w I1 J1 eS hS p0 hw fI1 fJ1 g1 A1 f1
    have hn1 : I1 65 0 = nI n := by rw [fI1 65 0 (by decide) (by decide)]; exact hn
    have hm1 : I1 65 4 = nI m := by rw [fI1 65 4 (by decide) (by decide)]; exact hm
    have ht1 : I1 65 3 = I 65 3 := fI1 65 3 (by decide) (by decide)
    have hE1 := fI1.E
    have bne := rx_bne g1
    refine aw_istore_n dX8_held_6 (by decide) ?_
    refine aw_lv (lv2 := [.ref _, .int _, .int _]) rfl ?_
    refine aw_iload_n dX8_held_7 rfl ?_
    refine aw_if_eq (t := 15) dX8_held_8 (by decide) (fun h4 => ?_) (fun h4 => absurd h4 (by decide))
    refine aw_aload_n dX8_held_15 rfl ?_
    refine aw_cvI (As := []) (d' := d - 1) dX8_held_16 lkX8_210 hM.o (by omega) rfl rfl (Nat.le_of_ble_eq_true rfl) ⟨Nat.le_refl _, Nat.le_refl _⟩ (tX8_heldNow hM hn1 hn3 hm1 hm6 (by omega) ?_)
    refine aw_toI (rp_hb_at hE1 ht1 A1) ?_
    refine aw_pc (pc2 := 19) rfl ?_
    have kbn : ¬ sp_var x (2 ^ m) = 0 := by rw [eS, sp_varS hS (by have h64 : 2 ^ m ≤ 2 ^ 6 := Nat.pow_le_pow_right (by decide) hm6; omega)]; decide
    exact aw_iret dX8_held_19 rfl (hQ S w I1 J1 eS hS kbn p0 hw fI1 fJ1 g1 f1) (Nat.zero_le _) (Nat.zero_le _)
theorem lX8_tight {G : aw_G} {d : Nat} {Ω : aw_O} {I : aw_MI} {J : aw_MJ} {Q : Int32 → aw_O → aw_MI → aw_MJ → Prop} {n m w S : Nat} {I0 : aw_MI} (hM : aw_model Ω 65) (hn : I 65 0 = nI n) (hn3 : n ≤ 3) (hm : I 65 4 = nI m) (hm6 : m ≤ 6) (hE1 : rx_E I0 I) (ht1 : I 65 3 = I0 65 3) (A1 : rx_At I0 n m w (I0 65 3) J) (hd : 3 ≤ d) {x : Int32} (hQ : Q (rx_ti I0 n m (I0 65 3) w) Ω I J) : ∀ (z i : Nat), i ≤ m → m - i < z → AW G MX8_tight (aw_nx Ω) d 0 0 (aw_QI Q) Ω I J 0 0 [.ref (aw_ad G 65), .int x, .int (nI 0), .int (sp_or (fun l => decide (rx_sl I0 n m w (I0 65 3) l = 0)) i), .int (nI i)] 12 [] := by
  intro z
  induction z with
  | zero =>
    intro i h0 hz
    exact absurd hz (by omega)
  | succ z ih =>
    intro i h0 hz
    refine aw_iload dX8_tight_12 rfl ?_
    refine aw_aload_n dX8_tight_14 rfl ?_
    refine aw_getIv (v := nI m) dX8_tight_15 flX8_88 hM.o hm ?_
    refine aw_geN (t := 53) dX8_tight_18 (by decide) (by omega) (by omega) (fun h1 => ?_) (fun h1 => ?_)
    · skip
      refine aw_iload_n dX8_tight_53 rfl ?_
      refine aw_if_eq (t := 61) dX8_tight_54 (by decide) (fun h2 => ?_) (fun h2 => absurd h2 (by decide))
      refine aw_iload_n dX8_tight_61 rfl ?_
      exact aw_iret dX8_tight_62 rfl ((by rw [show i = m from by omega]; exact hQ)) (Nat.zero_le _) (Nat.zero_le _)
    · skip
      refine aw_iload_n dX8_tight_21 rfl ?_
      refine aw_if_ne (t := 53) dX8_tight_22 (by decide) (fun h3 => absurd h3 (by decide)) (fun h3 => ?_)
      refine aw_iload_n dX8_tight_25 rfl ?_
      refine aw_aload_n dX8_tight_26 rfl ?_
      refine aw_iload dX8_tight_27 rfl ?_
      refine aw_pc (pc2 := 29) rfl ?_
      refine aw_cvL (As := [_]) (d' := d - 1) dX8_tight_29 lkX8_172 hM.o (by omega) rfl rfl (Nat.le_of_ble_eq_true rfl) ⟨Nat.le_refl _, Nat.le_refl _⟩ (tX8_slackOf hM hn hn3 (by omega) (by omega) ?_)
      refine aw_toL (rp_slk_at hE1 ht1 A1) ?_
      refine aw_lconst (v := 0) dX8_tight_32 (by decide) ?_
      refine aw_lcmp dX8_tight_33 ?_
      refine aw_if_ne (t := 44) dX8_tight_34 (by decide) (fun h4 => ?_) (fun h4 => ?_)
      · skip
        refine aw_iconst (v := nI 0) dX8_tight_44 (by decide) ?_
        refine aw_ior dX8_tight_45 ?_
        refine aw_istore_n dX8_tight_46 (by decide) ?_
        refine aw_lv (lv2 := [.ref _, .int _, .int _, .int _, .int _]) rfl ?_
        refine aw_iincN dX8_tight_47 rfl (by decide) ?_
        refine aw_lv (lv2 := [.ref _, .int _, .int _, .int _, .int _]) rfl ?_
        refine aw_goto (t := 12) dX8_tight_50 (by decide) ?_
        try simp only [lcmpE, lcmpL, lcmpG, lcmpLE, lcmpGT, nrm_le, nrm_le64, Classical.not_not] at h4
        rw [sp_or_f (f := fun l => decide (rx_sl I0 n m w (I0 65 3) l = 0)) (fun q => h4 (of_decide_eq_true q))]
        exact ih (i + 1) (by omega) (by omega)
      · skip
        refine aw_iconst (v := nI 1) dX8_tight_37 (by decide) ?_
        refine aw_iload dX8_tight_38 rfl ?_
        refine aw_ishl dX8_tight_40 ?_
        refine aw_goto (t := 45) dX8_tight_41 (by decide) ?_
        refine aw_ior dX8_tight_45 ?_
        refine aw_istore_n dX8_tight_46 (by decide) ?_
        refine aw_lv (lv2 := [.ref _, .int _, .int _, .int _, .int _]) rfl ?_
        refine aw_iincN dX8_tight_47 rfl (by decide) ?_
        refine aw_lv (lv2 := [.ref _, .int _, .int _, .int _, .int _]) rfl ?_
        refine aw_goto (t := 12) dX8_tight_50 (by decide) ?_
        try simp only [lcmpE, lcmpL, lcmpG, lcmpLE, lcmpGT, nrm_le, nrm_le64, Classical.not_not] at h4
        rw [sp_or_t (f := fun l => decide (rx_sl I0 n m w (I0 65 3) l = 0)) (decide_eq_true h4)]
        exact ih (i + 1) (by omega) (by omega)
theorem tX8_tight {G : aw_G} {d : Nat} {Ω : aw_O} {I : aw_MI} {J : aw_MJ} {Q : Int32 → aw_O → aw_MI → aw_MJ → Prop} {n m : Nat} (hM : aw_model Ω 65) (hn : I 65 0 = nI n) (hn3 : n ≤ 3) (hm : I 65 4 = nI m) (hm6 : m ≤ 6) {x : Int32} (hd : 7 ≤ d) (kB : sp_var x (2 ^ m) = 0 → Q (-2) Ω I J) (kS : ∀ I' J', ¬ sp_var x (2 ^ m) = 0 → rp_ac (I 66) n = 0 → mr_I I I' → mr_J J J' → Q (-3) Ω I' J') (kN : ∀ S I' J', x = nI S → S < 2 ^ m → ¬ sp_var x (2 ^ m) = 0 → ¬ rp_ac (I 66) n = 0 → mr_I I I' → mr_J J J' → rx_res I n m S = -1 → Q (-1) Ω I' J') (hQ : ∀ S w I' J', x = nI S → S < 2 ^ m → ¬ sp_var x (2 ^ m) = 0 → ¬ rp_ac (I 66) n = 0 → w ≤ S → mr_I I I' → mr_J J J' → rx_gb I n m (nI S) (I 65 3) w = true → rx_res I n m S = nI w → Q (rx_ti I n m (I 65 3) w) Ω I' J') : aw_Call G MX8_tight d 0 0 [.ref (aw_ad G 65), .int x] Ω I J (aw_QI Q) := by
  refine aw_enter (by decide +kernel) rfl (Nat.le_of_ble_eq_true rfl) ?_
  show AW G MX8_tight (aw_nx Ω) d 0 0 (aw_QI Q) Ω I J 0 0 [.ref (aw_ad G 65), .int x, .null, .null, .null] 0 []
  refine aw_aload_n dX8_tight_0 rfl ?_
  refine aw_iload_n dX8_tight_1 rfl ?_
  refine aw_iconst (v := nI 1) dX8_tight_2 (by decide) ?_
  refine aw_cvI (As := [_, _]) (d' := d - 1) dX8_tight_3 lkX8_196 hM.o (by omega) rfl rfl (Nat.le_of_ble_eq_true rfl) ⟨Nat.le_refl _, Nat.le_refl _⟩ (tX8_lacks hM hn hn3 hm hm6 (by omega) ?_ ?_ ?_ ?_)
  · skip
    intro kb
    have hmc : I 65 4 = nI m := hm
    refine aw_istore_n dX8_tight_6 (by decide) ?_
    refine aw_lv (lv2 := [.ref _, .int _, .int _, .null, .null]) rfl ?_
    refine aw_iconst (v := nI 0) dX8_tight_7 (by decide) ?_
    refine aw_istore_n dX8_tight_8 (by decide) ?_
    refine aw_lv (lv2 := [.ref _, .int _, .int _, .int _, .null]) rfl ?_
    refine aw_iconst (v := nI 0) dX8_tight_9 (by decide) ?_
    refine aw_istore dX8_tight_10 (by decide) ?_
    refine aw_lv (lv2 := [.ref _, .int _, .int _, .int _, .int _]) rfl ?_
    refine aw_pc (pc2 := 12) rfl ?_
    refine aw_iload dX8_tight_12 rfl ?_
    refine aw_aload_n dX8_tight_14 rfl ?_
    refine aw_getIv (v := nI m) dX8_tight_15 flX8_88 hM.o hmc ?_
    refine aw_geN (t := 53) dX8_tight_18 (by decide) (by omega) (by omega) (fun h1 => ?_) (fun h1 => ?_)
    · skip
      refine aw_iload_n dX8_tight_53 rfl ?_
      refine aw_if_eq (t := 61) dX8_tight_54 (by decide) (fun h2 => absurd h2 (by decide)) (fun h2 => ?_)
      refine aw_iload_n dX8_tight_57 rfl ?_
      refine aw_goto (t := 62) dX8_tight_58 (by decide) ?_
      exact aw_iret dX8_tight_62 rfl (kB kb) (Nat.zero_le _) (Nat.zero_le _)
    · skip
      refine aw_iload_n dX8_tight_21 rfl ?_
      refine aw_if_ne (t := 53) dX8_tight_22 (by decide) (fun h3 => ?_) (fun h3 => absurd h3 (by decide))
      refine aw_iload_n dX8_tight_53 rfl ?_
      refine aw_if_eq (t := 61) dX8_tight_54 (by decide) (fun h4 => absurd h4 (by decide)) (fun h4 => ?_)
      refine aw_iload_n dX8_tight_57 rfl ?_
      refine aw_pc (pc2 := 58) rfl ?_
      refine aw_goto (t := 62) dX8_tight_58 (by decide) ?_
      exact aw_iret dX8_tight_62 rfl (kB kb) (Nat.zero_le _) (Nat.zero_le _)
  · skip
    intro I1 J1 kb p0 fI1 fJ1
    have hmc : I1 65 4 = nI m := (by rw [fI1 65 4 (by decide) (by decide)]; exact hm)
    refine aw_istore_n dX8_tight_6 (by decide) ?_
    refine aw_lv (lv2 := [.ref _, .int _, .int _, .null, .null]) rfl ?_
    refine aw_iconst (v := nI 0) dX8_tight_7 (by decide) ?_
    refine aw_istore_n dX8_tight_8 (by decide) ?_
    refine aw_lv (lv2 := [.ref _, .int _, .int _, .int _, .null]) rfl ?_
    refine aw_iconst (v := nI 0) dX8_tight_9 (by decide) ?_
    refine aw_istore dX8_tight_10 (by decide) ?_
    refine aw_lv (lv2 := [.ref _, .int _, .int _, .int _, .int _]) rfl ?_
    refine aw_pc (pc2 := 12) rfl ?_
    refine aw_iload dX8_tight_12 rfl ?_
    refine aw_aload_n dX8_tight_14 rfl ?_
    refine aw_getIv (v := nI m) dX8_tight_15 flX8_88 hM.o hmc ?_
    refine aw_geN (t := 53) dX8_tight_18 (by decide) (by omega) (by omega) (fun h5 => ?_) (fun h5 => ?_)
    · skip
      refine aw_iload_n dX8_tight_53 rfl ?_
      refine aw_if_eq (t := 61) dX8_tight_54 (by decide) (fun h6 => absurd h6 (by decide)) (fun h6 => ?_)
      refine aw_iload_n dX8_tight_57 rfl ?_
      refine aw_goto (t := 62) dX8_tight_58 (by decide) ?_
      exact aw_iret dX8_tight_62 rfl (kS I1 J1 kb p0 fI1 fJ1) (Nat.zero_le _) (Nat.zero_le _)
    · skip
      refine aw_iload_n dX8_tight_21 rfl ?_
      refine aw_if_ne (t := 53) dX8_tight_22 (by decide) (fun h7 => ?_) (fun h7 => absurd h7 (by decide))
      refine aw_iload_n dX8_tight_53 rfl ?_
      refine aw_if_eq (t := 61) dX8_tight_54 (by decide) (fun h8 => absurd h8 (by decide)) (fun h8 => ?_)
      refine aw_iload_n dX8_tight_57 rfl ?_
      refine aw_pc (pc2 := 58) rfl ?_
      refine aw_goto (t := 62) dX8_tight_58 (by decide) ?_
      exact aw_iret dX8_tight_62 rfl (kS I1 J1 kb p0 fI1 fJ1) (Nat.zero_le _) (Nat.zero_le _)
  · skip
    intro S I1 J1 eS hS p0 fI1 fJ1 f1
    have hmc : I1 65 4 = nI m := (by rw [fI1 65 4 (by decide) (by decide)]; exact hm)
    refine aw_istore_n dX8_tight_6 (by decide) ?_
    refine aw_lv (lv2 := [.ref _, .int _, .int _, .null, .null]) rfl ?_
    refine aw_iconst (v := nI 0) dX8_tight_7 (by decide) ?_
    refine aw_istore_n dX8_tight_8 (by decide) ?_
    refine aw_lv (lv2 := [.ref _, .int _, .int _, .int _, .null]) rfl ?_
    refine aw_iconst (v := nI 0) dX8_tight_9 (by decide) ?_
    refine aw_istore dX8_tight_10 (by decide) ?_
    refine aw_lv (lv2 := [.ref _, .int _, .int _, .int _, .int _]) rfl ?_
    refine aw_pc (pc2 := 12) rfl ?_
    refine aw_iload dX8_tight_12 rfl ?_
    refine aw_aload_n dX8_tight_14 rfl ?_
    refine aw_getIv (v := nI m) dX8_tight_15 flX8_88 hM.o hmc ?_
    refine aw_geN (t := 53) dX8_tight_18 (by decide) (by omega) (by omega) (fun h9 => ?_) (fun h9 => ?_)
    · skip
      refine aw_iload_n dX8_tight_53 rfl ?_
      refine aw_if_eq (t := 61) dX8_tight_54 (by decide) (fun h10 => absurd h10 (by decide)) (fun h10 => ?_)
      refine aw_iload_n dX8_tight_57 rfl ?_
      refine aw_goto (t := 62) dX8_tight_58 (by decide) ?_
      have kbn : ¬ sp_var x (2 ^ m) = 0 := by rw [eS, sp_varS hS (by have h64 : 2 ^ m ≤ 2 ^ 6 := Nat.pow_le_pow_right (by decide) hm6; omega)]; decide
      exact aw_iret dX8_tight_62 rfl (kN S I1 J1 eS hS kbn p0 fI1 fJ1 f1) (Nat.zero_le _) (Nat.zero_le _)
    · skip
      refine aw_iload_n dX8_tight_21 rfl ?_
      refine aw_if_ne (t := 53) dX8_tight_22 (by decide) (fun h11 => ?_) (fun h11 => absurd h11 (by decide))
      refine aw_iload_n dX8_tight_53 rfl ?_
      refine aw_if_eq (t := 61) dX8_tight_54 (by decide) (fun h12 => absurd h12 (by decide)) (fun h12 => ?_)
      refine aw_iload_n dX8_tight_57 rfl ?_
      refine aw_pc (pc2 := 58) rfl ?_
      refine aw_goto (t := 62) dX8_tight_58 (by decide) ?_
      have kbn : ¬ sp_var x (2 ^ m) = 0 := by rw [eS, sp_varS hS (by have h64 : 2 ^ m ≤ 2 ^ 6 := Nat.pow_le_pow_right (by decide) hm6; omega)]; decide
      exact aw_iret dX8_tight_62 rfl (kN S I1 J1 eS hS kbn p0 fI1 fJ1 f1) (Nat.zero_le _) (Nat.zero_le _)
  · skip
    intro S w I1 J1 eS hS p0 hw fI1 fJ1 g1 A1 f1
    have hn1 : I1 65 0 = nI n := by rw [fI1 65 0 (by decide) (by decide)]; exact hn
    have hm1 : I1 65 4 = nI m := by rw [fI1 65 4 (by decide) (by decide)]; exact hm
    have ht1 : I1 65 3 = I 65 3 := fI1 65 3 (by decide) (by decide)
    have hE1 := fI1.E
    have bne := rx_bne g1
    have hmc : I1 65 4 = nI m := hm1
    refine aw_istore_n dX8_tight_6 (by decide) ?_
    refine aw_lv (lv2 := [.ref _, .int _, .int _, .null, .null]) rfl ?_
    refine aw_iconst (v := nI 0) dX8_tight_7 (by decide) ?_
    refine aw_istore_n dX8_tight_8 (by decide) ?_
    refine aw_lv (lv2 := [.ref _, .int _, .int _, .int _, .null]) rfl ?_
    refine aw_iconst (v := nI 0) dX8_tight_9 (by decide) ?_
    refine aw_istore dX8_tight_10 (by decide) ?_
    refine aw_lv (lv2 := [.ref _, .int _, .int _, .int _, .int _]) rfl ?_
    have kbn : ¬ sp_var x (2 ^ m) = 0 := by rw [eS, sp_varS hS (by have h64 : 2 ^ m ≤ 2 ^ 6 := Nat.pow_le_pow_right (by decide) hm6; omega)]; decide
    exact lX8_tight (S := S) (I0 := I) hM hn1 hn3 hm1 hm6 hE1 ht1 A1 (by omega) (hQ S w I1 J1 eS hS kbn p0 hw fI1 fJ1 g1 f1) (m + 1) 0 (by omega) (by omega)

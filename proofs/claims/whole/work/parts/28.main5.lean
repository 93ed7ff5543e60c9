/-! THE CLASS: certificates, the nearest -/
/-- the sheet's cells behind certify -/
def ck_P (I : aw_MI) (J J' : aw_MJ) (n m t w k : Nat) : Prop := (∀ i, i < n → J' 59 (k * 12 + i) = cx_v I 1 n m w (nI t) i / (sp_shb (cx_b I 1 n m w) (cx_v I 1 n m w (nI t)) (cx_y I 1 n m w (nI t)) n m)) ∧ (∀ l, l < m → J' 59 (k * 12 + n + l) = cx_y I 1 n m w (nI t) l / (sp_shb (cx_b I 1 n m w) (cx_v I 1 n m w (nI t)) (cx_y I 1 n m w (nI t)) n m)) ∧ J' 59 (k * 12 + (n + m)) = cx_b I 1 n m w / (sp_shb (cx_b I 1 n m w) (cx_v I 1 n m w (nI t)) (cx_y I 1 n m w (nI t)) n m) ∧ (∀ j, n + m < j → j < 12 → J' 59 (k * 12 + j) = 0) ∧ (∀ j, j < k * 12 ∨ k * 12 + 12 ≤ j → J' 59 j = J 59 j) ∧ ∀ a, a < 22 ∨ (39 ≤ a ∧ a ≠ 59) → J' a = J a
theorem sp_g1_c {b : Int64} {x x' : Nat → Int64} : ∀ {n : Nat}, (∀ i, i < n → x i = x' i) → sp_g1 b x n = sp_g1 b x' n
  | 0, _ => rfl
  | n + 1, h => by
    unfold sp_g1
    rw [sp_g1_c (fun i hi => h i (by omega)), h n (by omega)]
theorem ck_of {I : aw_MI} {J J1 : aw_MJ} {n m t w k : Nat} (hn3 : n ≤ 3) (hm6 : m ≤ 6) (b1 : sv_J 22 J J1) (A1 : cx_At I 1 n m w (nI t) 22 J1) : ck_P I J (aw_up (aw_wr (aw_wr (aw_fr J1 (56 + 3) (k * 12) 12 0) (56 + 3) (k * 12) n (fun i => J1 (23 + 1) i / sp_shb (J1 23 2) (J1 (23 + 1)) (J1 (23 + 2)) n m)) (56 + 3) (k * 12 + n) m (fun l => J1 (23 + 2) l / sp_shb (J1 23 2) (J1 (23 + 1)) (J1 (23 + 2)) n m)) (56 + 3) (k * 12 + (n + m)) (J1 23 2 / sp_shb (J1 23 2) (J1 (23 + 1)) (J1 (23 + 2)) n m)) n m t w k := by
  have e1 : J1 23 2 = cx_b I 1 n m w := A1.1
  have e2 : ∀ i, i < n → J1 (23 + 1) i = cx_v I 1 n m w (nI t) i := fun i hi => (A1.2.2.1 i hi).1
  have e3 : ∀ l, l < 6 → J1 (23 + 2) l = cx_y I 1 n m w (nI t) l := fun l hl => (A1.2.2.2 l hl).1
  have es : sp_shb (J1 23 2) (J1 (23 + 1)) (J1 (23 + 2)) n m = (sp_shb (cx_b I 1 n m w) (cx_v I 1 n m w (nI t)) (cx_y I 1 n m w (nI t)) n m) := by
    unfold sp_shb
    rw [e1, sp_g1_c e2, sp_g1_c (fun l hl => e3 l (by omega))]
  rw [es, e1]
  refine ⟨fun i hi => ?_, fun l hl => ?_, aw_up_self _ _ _ _, fun j h1 h2 => ?_, fun j hj => ?_, fun a ha => ?_⟩
  · rw [show (59 : Nat) = 56 + 3 from rfl, aw_up_ne _ _ (Or.inr (by omega)), aw_wr_lo _ _ (by omega), aw_wr_in _ _ hi, e2 i hi]
  · rw [show (59 : Nat) = 56 + 3 from rfl, aw_up_ne _ _ (Or.inr (by omega)), aw_wr_in _ _ hl, e3 l (by omega)]
  · rw [show (59 : Nat) = 56 + 3 from rfl, aw_up_ne _ _ (Or.inr (by omega)), aw_wr_at _ _ (by omega), aw_wr_at _ _ (by omega)]
    unfold aw_fr
    rw [if_pos (by omega)]
  · have q : ∀ X : aw_MJ, aw_fr X (56 + 3) (k * 12) 12 0 (56 + 3) j = X (56 + 3) j := fun X => by
      unfold aw_fr
      rw [if_neg (by omega)]
    rw [show (59 : Nat) = 56 + 3 from rfl, aw_up_ne _ _ (Or.inr (by omega))]
    rcases hj with hj | hj
    · rw [aw_wr_lo _ _ (by omega), aw_wr_lo _ _ (by omega), q]
      exact congrFun (b1 59 (by decide)) j
    · rw [aw_wr_at _ _ (by omega), aw_wr_at _ _ (by omega), q]
      exact congrFun (b1 59 (by decide)) j
  · rw [aw_up_off _ _ (by omega), aw_wr_off _ _ (by omega), aw_wr_off _ _ (by omega), aw_fr_off _ _ (by omega)]
    exact b1 a (by omega)
theorem tX7_certify {G : aw_G} {d : Nat} {Ω : aw_O} {I : aw_MI} {J : aw_MJ} {Q : Int32 → aw_O → aw_MI → aw_MJ → Prop} {x : Int32} {n m t : Nat} (hM : aw_main Ω 0) (hn : I 1 0 = nI n) (hn3 : n ≤ 3) (hm : I 1 2 = nI m) (hm6 : m ≤ 6) (ht : I 1 1 = nI t) (hd : 6 ≤ d) (kB : sp_var x 4 = 0 → Q (-2) Ω I J) (kS : ¬ sp_var x 4 = 0 → sp_hl (I 2) 1 n = 0 → Q (-3) Ω I J) (kN : ∀ I' J', ¬ sp_var x 4 = 0 → ¬ sp_hl (I 2) 1 n = 0 → sv_I 22 I I' → sv_J 22 J J' → cx_res I n m t (2 ^ m - 1) = -1 → Q (-1) Ω I' J') (hQ : ∀ k w I1 J1 J', x = nI k → k < 4 → ¬ sp_hl (I 2) 1 n = 0 → w < 2 ^ m → sv_I 22 I I1 → sv_J 22 J J1 → cx_gb I 1 n m (nI (2 ^ m - 1)) (nI t) w = true → cx_res I n m t (2 ^ m - 1) = nI w → ck_P I J J' n m t w k → Q (nI (n + m + 1)) Ω (aw_up (aw_up I1 57 k (nI 1)) 58 k (nI (n + m + 1))) J') : aw_Call G MX7_certify d 0 0 [.ref (aw_ad G 0), .int x] Ω I J (aw_QI Q) := by
  refine aw_enter (by decide +kernel) rfl (Nat.le_of_ble_eq_true rfl) ?_
  show AW G MX7_certify (aw_nx Ω) d 0 0 (aw_QI Q) Ω I J 0 0 [.ref (aw_ad G 0), .int x, .null] 0 []
  have hpw : 0 < 2 ^ m := Nat.pos_of_ne_zero (by simp)
  have hS : 2 ^ m - 1 < 2 ^ m := by omega
  refine aw_aload_n dX7_certify_0 rfl ?_
  refine aw_iload_n dX7_certify_1 rfl ?_
  refine aw_csI (As := [_]) (d' := d - 1) dX7_certify_2 lkX7_223 (by omega) rfl rfl (Nat.le_of_ble_eq_true rfl) ⟨Nat.le_refl _, Nat.le_refl _⟩ (tX7_isSheet ?_)
  refine aw_if_ne (t := 12) dX7_certify_5 (by decide) (fun h1 => ?_) (fun h1 => ?_)
  · skip
    have kh1 := h1
    obtain ⟨k, hk, rfl⟩ := sp_var1 h1
    refine aw_iconst (v := nI 0) dX7_certify_12 (by decide) ?_
    refine aw_aload_n dX7_certify_13 rfl ?_
    refine aw_getR dX7_certify_14 flX7_10 hM.o hM.p0 ?_
    refine aw_cvI (As := []) (d' := d - 1) dX7_certify_17 lkX7_202 hM.q0.o (by omega) rfl rfl (Nat.le_of_ble_eq_true rfl) ⟨Nat.le_refl _, Nat.le_refl _⟩ (tX1_allLines hM.q0 hm ?_)
    refine aw_toI (sp_all_nI m (by omega)) ?_
    refine aw_cvI (As := [_, _]) (d' := d - 1) dX7_certify_20 lkX7_138 hM.o (by omega) rfl rfl (Nat.le_of_ble_eq_true rfl) ⟨Nat.le_refl _, Nat.le_refl _⟩ (tX7_find hM hn hn3 hm hm6 ht hS (by omega) ?_ ?_ ?_)
    · skip
      intro p0
      refine aw_istore_n dX7_certify_23 (by decide) ?_
      refine aw_lv (lv2 := [.ref _, .int _, .int _]) rfl ?_
      refine aw_iload_n dX7_certify_24 rfl ?_
      refine aw_if_ge (t := 30) dX7_certify_25 (by decide) (fun h2 => absurd h2 (by decide)) (fun h2 => ?_)
      refine aw_iload_n dX7_certify_28 rfl ?_
      exact aw_iret dX7_certify_29 rfl (kS kh1 p0) (Nat.zero_le _) (Nat.zero_le _)
    · skip
      intro I1 J1 p0 a1 b1 f1
      refine aw_istore_n dX7_certify_23 (by decide) ?_
      refine aw_lv (lv2 := [.ref _, .int _, .int _]) rfl ?_
      refine aw_iload_n dX7_certify_24 rfl ?_
      refine aw_if_ge (t := 30) dX7_certify_25 (by decide) (fun h3 => absurd h3 (by decide)) (fun h3 => ?_)
      refine aw_iload_n dX7_certify_28 rfl ?_
      exact aw_iret dX7_certify_29 rfl (kN I1 J1 kh1 p0 a1 b1 f1) (Nat.zero_le _) (Nat.zero_le _)
    · skip
      intro w I1 J1 p0 hw a1 b1 g1 t1 A1 f1
      have h64 : 2 ^ m ≤ 2 ^ 6 := Nat.pow_le_pow_right (by decide) hm6
      have hn1 : I1 1 0 = nI n := by rw [a1.1 1 (by decide)]; exact hn
      have hm1 : I1 1 2 = nI m := by rw [a1.1 1 (by decide)]; exact hm
      refine aw_istore_n dX7_certify_23 (by decide) ?_
      refine aw_lv (lv2 := [.ref _, .int _, .int _]) rfl ?_
      refine aw_iload_n dX7_certify_24 rfl ?_
      refine aw_if_ge (t := 30) dX7_certify_25 (by decide) (fun h4 => ?_) (fun h4 => ?_)
      · skip
        refine aw_aload_n dX7_certify_30 rfl ?_
        refine aw_getR dX7_certify_31 flX7_44 hM.o hM.p6 ?_
        refine aw_aload_n dX7_certify_34 rfl ?_
        refine aw_getR dX7_certify_35 flX7_27 hM.o hM.p3 ?_
        refine aw_getR dX7_certify_38 flX7_147 hM.q3.o hM.q3.p1 ?_
        refine aw_pc (pc2 := 41) rfl ?_
        refine aw_aload_n dX7_certify_41 rfl ?_
        refine aw_getR dX7_certify_42 flX7_37 hM.o hM.p5 ?_
        refine aw_iload_n dX7_certify_45 rfl ?_
        refine aw_cvV (As := [_, _, _]) (d' := d - 1) dX7_certify_46 lkX7_226 hM.q6.o (by omega) rfl rfl (Nat.le_of_ble_eq_true rfl) ⟨Nat.le_refl _, Nat.le_refl _⟩ (tX2_tell (s := 60) (c := 1) (a := 56) (p := 23) (k := k) hM.q6 hn1 hn3 hm1 hm6 hM.q5 hM.q3.q1 (by omega) (by decide) (by decide) (by omega) ?_)
        refine aw_aload_n dX7_certify_49 rfl ?_
        refine aw_getR dX7_certify_50 flX7_44 hM.o hM.p6 ?_
        refine aw_pc (pc2 := 53) rfl ?_
        refine aw_cvI (As := []) (d' := d - 1) dX7_certify_53 lkX7_230 hM.q6.o (by omega) rfl rfl (Nat.le_of_ble_eq_true rfl) ⟨Nat.le_refl _, Nat.le_refl _⟩ (tX2_length (s := 60) (c := 1) (n := n) (m := m) hM.q6 (by rw [aw_up_off _ _ (by decide), aw_up_off _ _ (by decide)]; exact hn1) hn3 (by rw [aw_up_off _ _ (by decide), aw_up_off _ _ (by decide)]; exact hm1) hm6 ?_)
        exact aw_iret dX7_certify_56 rfl (hQ k w I1 J1 _ rfl hk p0 (by omega) a1 b1 g1 f1 (ck_of hn3 hm6 b1 A1)) (Nat.zero_le _) (Nat.zero_le _)
      · skip
        exact absurd (nI_pos' (by omega)) h4
  · skip
    refine aw_iconst (v := nI 1) dX7_certify_8 (by decide) ?_
    refine aw_goto (t := 13) dX7_certify_9 (by decide) ?_
    refine aw_aload_n dX7_certify_13 rfl ?_
    refine aw_getR dX7_certify_14 flX7_10 hM.o hM.p0 ?_
    refine aw_cvI (As := []) (d' := d - 1) dX7_certify_17 lkX7_202 hM.q0.o (by omega) rfl rfl (Nat.le_of_ble_eq_true rfl) ⟨Nat.le_refl _, Nat.le_refl _⟩ (tX1_allLines hM.q0 hm ?_)
    refine aw_toI (sp_all_nI m (by omega)) ?_
    refine aw_cvI (As := [_, _]) (d' := d - 1) dX7_certify_20 lkX7_138 hM.o (by omega) rfl rfl (Nat.le_of_ble_eq_true rfl) ⟨Nat.le_refl _, Nat.le_refl _⟩ (tX7_findB hM ?_)
    · skip
      refine aw_istore_n dX7_certify_23 (by decide) ?_
      refine aw_lv (lv2 := [.ref _, .int _, .int _]) rfl ?_
      refine aw_iload_n dX7_certify_24 rfl ?_
      refine aw_if_ge (t := 30) dX7_certify_25 (by decide) (fun h5 => absurd h5 (by decide)) (fun h5 => ?_)
      refine aw_iload_n dX7_certify_28 rfl ?_
      exact aw_iret dX7_certify_29 rfl (kB h1) (Nat.zero_le _) (Nat.zero_le _)
theorem tX7_check {G : aw_G} {d : Nat} {Ω : aw_O} {I : aw_MI} {J : aw_MJ} {Q : Int32 → aw_O → aw_MI → aw_MJ → Prop} {x : Int32} {n m t : Nat} (hM : aw_main Ω 0) (hn : I 1 0 = nI n) (hn3 : n ≤ 3) (hm : I 1 2 = nI m) (hm6 : m ≤ 6) (ht : I 1 1 = nI t) (hd : 6 ≤ d) (kB : sp_var x 4 = 0 → Q (-2) Ω I J) (kO : ∀ k, x = nI k → k < 4 → I 57 k = -1 → Q (-11) Ω I J) (kZ : ∀ k, x = nI k → k < 4 → ¬ I 57 k = -1 → ¬ I 58 k = nI (n + m + 1) → Q (-14) Ω I J) (kM : ∀ k, x = nI k → k < 4 → ¬ I 57 k = -1 → I 58 k = nI (n + m + 1) → sp_in (fun i => J 59 (k * 12 + i)) 1000000000000 0 (n + m + 1) = 0 → Q (-5) Ω I J) (hQ : ∀ k, x = nI k → k < 4 → ¬ I 57 k = -1 → I 58 k = nI (n + m + 1) → ¬ sp_in (fun i => J 59 (k * 12 + i)) 1000000000000 0 (n + m + 1) = 0 → Q (sp_fw I (aw_up (aw_wr (aw_wr J 62 0 n (fun i => J 59 (k * 12 + i))) 63 0 m (fun l => J 59 (k * 12 + (n + l)))) 61 2 (J 59 (k * 12 + (n + m)))) 1 61 n m) Ω I (aw_up (aw_wr (aw_wr J 62 0 n (fun i => J 59 (k * 12 + i))) 63 0 m (fun l => J 59 (k * 12 + (n + l)))) 61 2 (J 59 (k * 12 + (n + m))))) : aw_Call G MX7_check d 0 0 [.ref (aw_ad G 0), .int x] Ω I J (aw_QI Q) := by
  refine aw_enter (by decide +kernel) rfl (Nat.le_of_ble_eq_true rfl) ?_
  show AW G MX7_check (aw_nx Ω) d 0 0 (aw_QI Q) Ω I J 0 0 [.ref (aw_ad G 0), .int x] 0 []
  refine aw_iload_n dX7_check_0 rfl ?_
  refine aw_csI (As := [_]) (d' := d - 1) dX7_check_1 lkX7_223 (by omega) rfl rfl (Nat.le_of_ble_eq_true rfl) ⟨Nat.le_refl _, Nat.le_refl _⟩ (tX7_isSheet ?_)
  refine aw_if_ne (t := 10) dX7_check_4 (by decide) (fun h1 => ?_) (fun h1 => ?_)
  · skip
    obtain ⟨k, hk, rfl⟩ := sp_var1 h1
    refine aw_aload_n dX7_check_10 rfl ?_
    refine aw_getR dX7_check_11 flX7_37 hM.o hM.p5 ?_
    refine aw_getR dX7_check_14 flX7_233 hM.q5.o hM.q5.p0 ?_
    refine aw_iload_n dX7_check_17 rfl ?_
    refine aw_iald dX7_check_18 hM.q5.s0 rfl (by omega) ?_
    refine aw_pc (pc2 := 19) rfl ?_
    refine aw_iconst (v := -1) dX7_check_19 (by decide) ?_
    refine aw_icmp_ne (t := 26) dX7_check_20 (by decide) (fun h2 => ?_) (fun h2 => ?_)
    · skip
      refine aw_aload_n dX7_check_26 rfl ?_
      refine aw_getR dX7_check_27 flX7_37 hM.o hM.p5 ?_
      refine aw_getR dX7_check_30 flX7_236 hM.q5.o hM.q5.p1 ?_
      refine aw_iload_n dX7_check_33 rfl ?_
      refine aw_iald dX7_check_34 hM.q5.s1 rfl (by omega) ?_
      refine aw_pc (pc2 := 35) rfl ?_
      refine aw_aload_n dX7_check_35 rfl ?_
      refine aw_getR dX7_check_36 flX7_44 hM.o hM.p6 ?_
      refine aw_cvI (As := []) (d' := d - 1) dX7_check_39 lkX7_230 hM.q6.o (by omega) rfl rfl (Nat.le_of_ble_eq_true rfl) ⟨Nat.le_refl _, Nat.le_refl _⟩ (tX2_length (s := 60) (c := 1) (n := n) (m := m) hM.q6 hn hn3 hm hm6 ?_)
      refine aw_icmp_eq (t := 48) dX7_check_42 (by decide) (fun h3 => ?_) (fun h3 => ?_)
      · skip
        refine aw_aload_n dX7_check_48 rfl ?_
        refine aw_getR dX7_check_49 flX7_37 hM.o hM.p5 ?_
        refine aw_iload_n dX7_check_52 rfl ?_
        refine aw_ldc2 (v := 1000000000000) dX7_check_53 (aw_pl 652 (by decide +kernel) rfl) ?_
        refine aw_cvI (As := [_, _]) (d' := d - 1) dX7_check_56 lkX7_241 hM.q5.o (by omega) rfl rfl (Nat.le_of_ble_eq_true rfl) ⟨Nat.le_refl _, Nat.le_refl _⟩ (tX5_isAllWithin (b := 56) (s := k) (e := n + m + 1) hM.q5 hk h3 (by omega) (by omega) ?_)
        refine aw_pc (pc2 := 59) rfl ?_
        refine aw_if_ne (t := 65) dX7_check_59 (by decide) (fun h4 => ?_) (fun h4 => ?_)
        · skip
          refine aw_aload_n dX7_check_65 rfl ?_
          refine aw_getR dX7_check_66 flX7_44 hM.o hM.p6 ?_
          refine aw_aload_n dX7_check_69 rfl ?_
          refine aw_getR dX7_check_70 flX7_37 hM.o hM.p5 ?_
          refine aw_iload_n dX7_check_73 rfl ?_
          refine aw_pc (pc2 := 74) rfl ?_
          refine aw_cvV (As := [_, _]) (d' := d - 1) dX7_check_74 lkX7_245 hM.q6.o (by omega) rfl rfl (Nat.le_of_ble_eq_true rfl) ⟨Nat.le_refl _, Nat.le_refl _⟩ (tX2_take (s := 60) (c := 1) (a := 56) (k := k) hM.q6 hn hn3 hm hm6 hM.q5 hk (by decide) (by omega) ?_)
          refine aw_aload_n dX7_check_77 rfl ?_
          refine aw_getR dX7_check_78 flX7_44 hM.o hM.p6 ?_
          refine aw_cvI (As := []) (d' := d - 1) dX7_check_81 lkX7_249 hM.q6.o (by omega) rfl rfl (Nat.le_of_ble_eq_true rfl) ⟨Nat.le_refl _, Nat.le_refl _⟩ (tX2_firstWrong (s := 60) (c := 1) hM.q6 hn hn3 hm hm6 (by omega) ?_)
          exact aw_iret dX7_check_84 rfl (hQ k rfl hk h2 h3 h4) (Nat.zero_le _) (Nat.zero_le _)
        · skip
          refine aw_bipush (v := -5) dX7_check_62 (by decide) ?_
          exact aw_iret dX7_check_64 rfl (kM k rfl hk h2 h3 h4) (Nat.zero_le _) (Nat.zero_le _)
      · skip
        refine aw_bipush (v := -14) dX7_check_45 (by decide) ?_
        exact aw_iret dX7_check_47 rfl (kZ k rfl hk h2 h3) (Nat.zero_le _) (Nat.zero_le _)
    · skip
      refine aw_bipush (v := -11) dX7_check_23 (by decide) ?_
      exact aw_iret dX7_check_25 rfl (kO k rfl hk h2) (Nat.zero_le _) (Nat.zero_le _)
  · skip
    refine aw_bipush (v := -2) dX7_check_7 (by decide) ?_
    exact aw_iret dX7_check_9 rfl (kB h1) (Nat.zero_le _) (Nat.zero_le _)
/-- the round bowl that the nearest seeks in -/
def nr_I (I : aw_MI) (x y v : Int32) : aw_MI := (aw_up (aw_up (aw_up (aw_wr (aw_cp (aw_cp (aw_cp (aw_cp (aw_cp (aw_cp (aw_up (aw_up (aw_up I 15 0 (I 1 0)) 15 1 (I 1 1)) 15 2 (I 1 2)) (2) (16) (0) (0) (9)) (3) (17) (0) (0) (3)) (4) (18) (0) (0) (6)) (5) (19) (0) (0) (6)) (6) (20) (0) (0) (6)) (7) (21) (0) (0) (18)) 16 0 9 (sp_rd 3)) 17 0 (-x)) 17 1 (-y)) 17 2 (-v))
abbrev nr_res (I : aw_MI) (n m t : Nat) (x y v : Int32) : Int32 := cx_find (cx_gb (nr_I I x y v) 15 n m (nI (2 ^ m - 1)) (nI t)) (nI (2 ^ m - 1)) (2 ^ m - 1 + 1) 0
theorem nr_0 {I : aw_MI} {x y v : Int32} : nr_I I x y v 15 0 = I 1 0 := by
  unfold nr_I
  simp (disch := omega) only [aw_cp_off, aw_up_off, aw_wr_off, aw_fill_off, aw_fr_off]
  rw [aw_up_ne _ _ (Or.inr (by decide)), aw_up_ne _ _ (Or.inr (by decide)), aw_up_self]
theorem nr_1 {I : aw_MI} {x y v : Int32} : nr_I I x y v 15 1 = I 1 1 := by
  unfold nr_I
  simp (disch := omega) only [aw_cp_off, aw_up_off, aw_wr_off, aw_fill_off, aw_fr_off]
  rw [aw_up_ne _ _ (Or.inr (by decide)), aw_up_self]
theorem nr_2 {I : aw_MI} {x y v : Int32} : nr_I I x y v 15 2 = I 1 2 := by
  unfold nr_I
  simp (disch := omega) only [aw_cp_off, aw_up_off, aw_wr_off, aw_fill_off, aw_fr_off]
  rw [aw_up_self]
theorem tX7_findNearB {G : aw_G} {d : Nat} {Ω : aw_O} {I : aw_MI} {J : aw_MJ} {Q : Int32 → aw_O → aw_MI → aw_MJ → Prop} {x y v : Int32} (hM : aw_main Ω 0) (hQ : Q (-2) Ω I J) : aw_Call G MX7_findNear d 0 0 [.ref (aw_ad G 0), .int (nI 1), .int x, .int y, .int v] Ω I J (aw_QI Q) := by
  refine aw_enter (by decide +kernel) rfl (Nat.le_of_ble_eq_true rfl) ?_
  show AW G MX7_findNear (aw_nx Ω) d 0 0 (aw_QI Q) Ω I J 0 0 [.ref (aw_ad G 0), .int (nI 1), .int x, .int y, .int v] 0 []
  refine aw_iload_n dX7_findNear_0 rfl ?_
  refine aw_if_ne (t := 32) dX7_findNear_1 (by decide) (fun h1 => ?_) (fun h1 => absurd h1 (by decide))
  refine aw_bipush (v := -2) dX7_findNear_32 (by decide) ?_
  exact aw_iret dX7_findNear_34 rfl (hQ) (Nat.zero_le _) (Nat.zero_le _)
theorem tX7_findNear {G : aw_G} {d : Nat} {Ω : aw_O} {I : aw_MI} {J : aw_MJ} {Q : Int32 → aw_O → aw_MI → aw_MJ → Prop} {x y v : Int32} {n m t : Nat} (hM : aw_main Ω 0) (hn : I 1 0 = nI n) (hn3 : n ≤ 3) (hm : I 1 2 = nI m) (hm6 : m ≤ 6) (ht : I 1 1 = nI t) (hd : 5 ≤ d) (kB : sp_wi x (nI 99) = 0 ∨ sp_wi y (nI 99) = 0 ∨ sp_wi v (nI 99) = 0 → Q (-2) Ω I J) (kN : ∀ I' J', ¬ (sp_wi x (nI 99) = 0 ∨ sp_wi y (nI 99) = 0 ∨ sp_wi v (nI 99) = 0) → sv_I 39 (nr_I I x y v) I' → sv_J 39 J J' → nr_res I n m t x y v = -1 → Q (-1) Ω I' J') (hQ : ∀ w I' J', ¬ (sp_wi x (nI 99) = 0 ∨ sp_wi y (nI 99) = 0 ∨ sp_wi v (nI 99) = 0) → w < 2 ^ m → sv_I 39 (nr_I I x y v) I' → sv_J 39 J J' → cx_gb (nr_I I x y v) 15 n m (nI (2 ^ m - 1)) (nI t) w = true → I' 39 10 = nI t → cx_At (nr_I I x y v) 15 n m w (nI t) 39 J' → nr_res I n m t x y v = nI w → Q (nI w) Ω I' J') : aw_Call G MX7_findNear d 0 0 [.ref (aw_ad G 0), .int (nI 0), .int x, .int y, .int v] Ω I J (aw_QI Q) := by
  refine aw_enter (by decide +kernel) rfl (Nat.le_of_ble_eq_true rfl) ?_
  show AW G MX7_findNear (aw_nx Ω) d 0 0 (aw_QI Q) Ω I J 0 0 [.ref (aw_ad G 0), .int (nI 0), .int x, .int y, .int v] 0 []
  have hpw : 0 < 2 ^ m := Nat.pos_of_ne_zero (by simp)
  have hS : 2 ^ m - 1 < 2 ^ m := by omega
  refine aw_iload_n dX7_findNear_0 rfl ?_
  refine aw_if_ne (t := 32) dX7_findNear_1 (by decide) (fun h1 => absurd h1 (by decide)) (fun h1 => ?_)
  refine aw_iload_n dX7_findNear_4 rfl ?_
  refine aw_bipush (v := nI 99) dX7_findNear_5 (by decide) ?_
  refine aw_csI (As := [_, _]) (d' := d - 1) dX7_findNear_7 lkX7_79 (by omega) rfl rfl (Nat.le_of_ble_eq_true rfl) ⟨Nat.le_refl _, Nat.le_refl _⟩ (tX7_isWithin ?_)
  refine aw_pc (pc2 := 10) rfl ?_
  refine aw_if_eq (t := 32) dX7_findNear_10 (by decide) (fun h2 => ?_) (fun h2 => ?_)
  · skip
    refine aw_bipush (v := -2) dX7_findNear_32 (by decide) ?_
    exact aw_iret dX7_findNear_34 rfl (kB (Or.inl h2)) (Nat.zero_le _) (Nat.zero_le _)
  · skip
    refine aw_iload_n dX7_findNear_13 rfl ?_
    refine aw_bipush (v := nI 99) dX7_findNear_14 (by decide) ?_
    refine aw_csI (As := [_, _]) (d' := d - 1) dX7_findNear_16 lkX7_79 (by omega) rfl rfl (Nat.le_of_ble_eq_true rfl) ⟨Nat.le_refl _, Nat.le_refl _⟩ (tX7_isWithin ?_)
    refine aw_if_eq (t := 32) dX7_findNear_19 (by decide) (fun h3 => ?_) (fun h3 => ?_)
    · skip
      refine aw_bipush (v := -2) dX7_findNear_32 (by decide) ?_
      exact aw_iret dX7_findNear_34 rfl (kB (Or.inr (Or.inl h3))) (Nat.zero_le _) (Nat.zero_le _)
    · skip
      refine aw_iload dX7_findNear_22 rfl ?_
      refine aw_bipush (v := nI 99) dX7_findNear_24 (by decide) ?_
      refine aw_csI (As := [_, _]) (d' := d - 1) dX7_findNear_26 lkX7_79 (by omega) rfl rfl (Nat.le_of_ble_eq_true rfl) ⟨Nat.le_refl _, Nat.le_refl _⟩ (tX7_isWithin ?_)
      refine aw_if_ne (t := 35) dX7_findNear_29 (by decide) (fun h4 => ?_) (fun h4 => ?_)
      · skip
        refine aw_aload_n dX7_findNear_35 rfl ?_
        refine aw_getR dX7_findNear_36 flX7_19 hM.o hM.p2 ?_
        refine aw_aload_n dX7_findNear_39 rfl ?_
        refine aw_getR dX7_findNear_40 flX7_10 hM.o hM.p0 ?_
        refine aw_cvV (As := [_]) (d' := d - 1) dX7_findNear_43 lkX7_297 hM.q2.o (by omega) rfl rfl (Nat.le_of_ble_eq_true rfl) ⟨Nat.le_refl _, Nat.le_refl _⟩ (tX1_become hM.q2 hM.q0 (by decide) (by omega) ?_)
        refine aw_pc (pc2 := 46) rfl ?_
        refine aw_aload_n dX7_findNear_46 rfl ?_
        refine aw_getR dX7_findNear_47 flX7_19 hM.o hM.p2 ?_
        refine aw_cvV (As := []) (d' := d - 1) dX7_findNear_50 lkX7_309 hM.q2.o (by omega) rfl rfl (Nat.le_of_ble_eq_true rfl) ⟨Nat.le_refl _, Nat.le_refl _⟩ (tX1_makeRound hM.q2 (by omega) ?_)
        refine aw_aload_n dX7_findNear_53 rfl ?_
        refine aw_getR dX7_findNear_54 flX7_19 hM.o hM.p2 ?_
        refine aw_getR dX7_findNear_57 flX7_83 hM.q2.o hM.q2.p4 ?_
        refine aw_pc (pc2 := 60) rfl ?_
        refine aw_iconst (v := nI 0) dX7_findNear_60 (by decide) ?_
        refine aw_iload_n dX7_findNear_61 rfl ?_
        refine aw_ineg dX7_findNear_62 ?_
        refine aw_iast dX7_findNear_63 hM.q2.s4 rfl (by omega) rfl ?_
        refine aw_aload_n dX7_findNear_64 rfl ?_
        refine aw_getR dX7_findNear_65 flX7_19 hM.o hM.p2 ?_
        refine aw_pc (pc2 := 68) rfl ?_
        refine aw_getR dX7_findNear_68 flX7_83 hM.q2.o hM.q2.p4 ?_
        refine aw_iconst (v := nI 1) dX7_findNear_71 (by decide) ?_
        refine aw_iload_n dX7_findNear_72 rfl ?_
        refine aw_ineg dX7_findNear_73 ?_
        refine aw_iast dX7_findNear_74 hM.q2.s4 rfl (by omega) rfl ?_
        refine aw_aload_n dX7_findNear_75 rfl ?_
        refine aw_pc (pc2 := 76) rfl ?_
        refine aw_getR dX7_findNear_76 flX7_19 hM.o hM.p2 ?_
        refine aw_getR dX7_findNear_79 flX7_83 hM.q2.o hM.q2.p4 ?_
        refine aw_iconst (v := nI 2) dX7_findNear_82 (by decide) ?_
        refine aw_iload dX7_findNear_83 rfl ?_
        refine aw_ineg dX7_findNear_85 ?_
        refine aw_iast dX7_findNear_86 hM.q2.s4 rfl (by omega) rfl ?_
        generalize hX : (aw_up (aw_up (aw_up _ _ 0 (-x)) _ 1 (-y)) _ 2 (-v) : aw_MI) = X
        have hX : nr_I I x y v = X := hX
        refine aw_pc (pc2 := 87) rfl ?_
        refine aw_aload_n dX7_findNear_87 rfl ?_
        refine aw_getR dX7_findNear_88 flX7_31 hM.o hM.p4 ?_
        refine aw_aload_n dX7_findNear_91 rfl ?_
        refine aw_getR dX7_findNear_92 flX7_19 hM.o hM.p2 ?_
        refine aw_cvI (As := []) (d' := d - 1) dX7_findNear_95 lkX7_202 hM.q2.o (by omega) rfl rfl (Nat.le_of_ble_eq_true rfl) ⟨Nat.le_refl _, Nat.le_refl _⟩ (tX1_allLines hM.q2 (hX ▸ nr_2.trans hm) ?_)
        refine aw_toI (sp_all_nI m (by omega)) ?_
        refine aw_aload_n dX7_findNear_98 rfl ?_
        refine aw_pc (pc2 := 99) rfl ?_
        refine aw_getR dX7_findNear_99 flX7_19 hM.o hM.p2 ?_
        refine aw_getIv (v := nI t) dX7_findNear_102 flX7_87 hM.q2.o (hX ▸ nr_1.trans ht) ?_
        refine aw_cvI (As := [_, _]) (d' := d - 1) dX7_findNear_105 lkX7_307 hM.q4.o (by omega) rfl rfl (Nat.le_of_ble_eq_true rfl) ⟨Nat.le_refl _, Nat.le_refl _⟩ (tX6_find (s := 39) (c := 15) (t := nI t) hM.q4 (hX ▸ nr_0.trans hn) hn3 (hX ▸ nr_2.trans hm) hm6 (by decide) hS (by omega) ?_ ?_)
        · skip
          intro I1 J1 a1 b1 f1
          rw [← hX] at a1 f1
          exact aw_iret dX7_findNear_108 rfl (kN I1 J1 (by intro q; rcases q with q | q | q <;> exact absurd q (by assumption)) a1 b1 f1) (Nat.zero_le _) (Nat.zero_le _)
        · skip
          intro w I1 J1 hw a1 b1 g1 t1 A1 f1
          rw [← hX] at a1 g1 A1 f1
          exact aw_iret dX7_findNear_108 rfl (hQ w I1 J1 (by intro q; rcases q with q | q | q <;> exact absurd q (by assumption)) (by omega) a1 b1 g1 t1 A1 f1) (Nat.zero_le _) (Nat.zero_le _)
      · skip
        refine aw_bipush (v := -2) dX7_findNear_32 (by decide) ?_
        exact aw_iret dX7_findNear_34 rfl (kB (Or.inr (Or.inr (h4)))) (Nat.zero_le _) (Nat.zero_le _)

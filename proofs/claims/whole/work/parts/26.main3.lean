/-! THE CLASS's calls that find -/
theorem sp_set1 {x : Int32} {m : Nat} (hm : m ≤ 6) (h : ¬ sp_set x m = 0) : ∃ S, S < 2 ^ m ∧ x = nI S := by
  unfold sp_set at h
  by_cases h1 : x &&& (sp_all m ^^^ (-1)) = 0
  · have e : x = x &&& sp_all m := by
      have q : ∀ M : Int32, x &&& (M ^^^ (-1)) = 0 → x = x &&& M := fun M hM => by
        apply Int32.toBitVec_inj.mp
        have h2 := congrArg Int32.toBitVec hM
        apply BitVec.eq_of_getLsbD_eq
        intro i hi
        have h3 := congrArg (fun b => b.getLsbD i) h2
        have h4 : (-1 : Int32).toBitVec = BitVec.allOnes 32 := by decide
        simp only [Int32.toBitVec_and, Int32.toBitVec_xor, BitVec.getLsbD_and, BitVec.getLsbD_xor, h4, BitVec.getLsbD_allOnes, hi, decide_true] at h3 ⊢
        have h5 : (0 : Int32).toBitVec.getLsbD i = false := by simp
        rw [h5] at h3
        revert h3
        cases x.toBitVec.getLsbD i <;> cases M.toBitVec.getLsbD i <;> simp
      exact q _ h1
    have h64 : 2 ^ m ≤ 2 ^ 6 := Nat.pow_le_pow_right (by decide) hm
    have hpos : 0 < 2 ^ m := Nat.pos_of_ne_zero (by simp)
    refine ⟨x.toBitVec.toNat % 2 ^ m, Nat.mod_lt _ hpos, ?_⟩
    have e2 := pk_and x (m := sp_all m) m (by rw [sp_all_nI m (by omega), pk_tn (by omega)])
    rw [← e2]
    exact e
  · rw [if_neg h1] at h
    exact absurd (by decide) h
abbrev cx_res (I : aw_MI) (n m t S : Nat) : Int32 := cx_find (cx_gb I 1 n m (nI S) (nI t)) (nI S) (S + 1) 0

theorem tX7_findB {G : aw_G} {d : Nat} {Ω : aw_O} {I : aw_MI} {J : aw_MJ} {Q : Int32 → aw_O → aw_MI → aw_MJ → Prop} (hM : aw_main Ω 0) {x : Int32} (hQ : Q (-2) Ω I J) : aw_Call G MX7_find d 0 0 [.ref (aw_ad G 0), .int (nI 1), .int x] Ω I J (aw_QI Q) := by
  refine aw_enter (by decide +kernel) rfl (Nat.le_of_ble_eq_true rfl) ?_
  show AW G MX7_find (aw_nx Ω) d 0 0 (aw_QI Q) Ω I J 0 0 [.ref (aw_ad G 0), .int (nI 1), .int x] 0 []
  refine aw_iload_n dX7_find_0 rfl ?_
  refine aw_if_eq (t := 7) dX7_find_1 (by decide) (fun h1 => absurd h1 (by decide)) (fun h1 => ?_)
  refine aw_bipush (v := -2) dX7_find_4 (by decide) ?_
  exact aw_iret dX7_find_6 rfl (hQ) (Nat.zero_le _) (Nat.zero_le _)
theorem tX7_find {G : aw_G} {d : Nat} {Ω : aw_O} {I : aw_MI} {J : aw_MJ} {Q : Int32 → aw_O → aw_MI → aw_MJ → Prop} {n m t S : Nat} (hM : aw_main Ω 0) (hn : I 1 0 = nI n) (hn3 : n ≤ 3) (hm : I 1 2 = nI m) (hm6 : m ≤ 6) (ht : I 1 1 = nI t) (hS2 : S < 2 ^ m) (hd : 5 ≤ d) (kS : sp_hl (I 2) 1 n = 0 → Q (-3) Ω I J) (kN : ∀ I' J', ¬ sp_hl (I 2) 1 n = 0 → sv_I 22 I I' → sv_J 22 J J' → cx_res I n m t S = -1 → Q (-1) Ω I' J') (hQ : ∀ w I' J', ¬ sp_hl (I 2) 1 n = 0 → w ≤ S → sv_I 22 I I' → sv_J 22 J J' → cx_gb I 1 n m (nI S) (nI t) w = true → I' 22 10 = nI t → cx_At I 1 n m w (nI t) 22 J' → cx_res I n m t S = nI w → Q (nI w) Ω I' J') : aw_Call G MX7_find d 0 0 [.ref (aw_ad G 0), .int (nI 0), .int (nI S)] Ω I J (aw_QI Q) := by
  refine aw_enter (by decide +kernel) rfl (Nat.le_of_ble_eq_true rfl) ?_
  show AW G MX7_find (aw_nx Ω) d 0 0 (aw_QI Q) Ω I J 0 0 [.ref (aw_ad G 0), .int (nI 0), .int (nI S)] 0 []
  refine aw_iload_n dX7_find_0 rfl ?_
  refine aw_if_eq (t := 7) dX7_find_1 (by decide) (fun h1 => ?_) (fun h1 => absurd h1 (by decide))
  refine aw_aload_n dX7_find_7 rfl ?_
  refine aw_getR dX7_find_8 flX7_10 hM.o hM.p0 ?_
  refine aw_cvI (As := []) (d' := d - 1) dX7_find_11 lkX7_131 hM.q0.o (by omega) rfl rfl (Nat.le_of_ble_eq_true rfl) ⟨Nat.le_refl _, Nat.le_refl _⟩ (tX1_hasLeast hM.q0 hn hn3 (by omega) ?_)
  refine aw_pc (pc2 := 14) rfl ?_
  refine aw_if_eq (t := 35) dX7_find_14 (by decide) (fun h2 => ?_) (fun h2 => ?_)
  · skip
    refine aw_bipush (v := -3) dX7_find_35 (by decide) ?_
    exact aw_iret dX7_find_37 rfl (kS h2) (Nat.zero_le _) (Nat.zero_le _)
  · skip
    refine aw_aload_n dX7_find_17 rfl ?_
    refine aw_getR dX7_find_18 flX7_27 hM.o hM.p3 ?_
    refine aw_iload_n dX7_find_21 rfl ?_
    refine aw_aload_n dX7_find_22 rfl ?_
    refine aw_getR dX7_find_23 flX7_10 hM.o hM.p0 ?_
    refine aw_pc (pc2 := 26) rfl ?_
    refine aw_getIv (v := nI t) dX7_find_26 flX7_87 hM.q0.o (by first | exact ht | (simp (disch := omega) only [aw_cp_off, aw_up_off, aw_wr_off, aw_fill_off, aw_fr_off]; exact ht)) ?_
    refine aw_cvI (As := [_, _]) (d' := d - 1) dX7_find_29 lkX7_307 hM.q3.o (by omega) rfl rfl (Nat.le_of_ble_eq_true rfl) ⟨Nat.le_refl _, Nat.le_refl _⟩ (tX6_find (s := 22) (c := 1) hM.q3 hn hn3 hm hm6 (by decide) hS2 (by omega) ?_ ?_)
    · skip
      intro I1 J1 a1 b1 f1
      refine aw_goto (t := 37) dX7_find_32 (by decide) ?_
      exact aw_iret dX7_find_37 rfl (kN I1 J1 h2 a1 b1 f1) (Nat.zero_le _) (Nat.zero_le _)
    · skip
      intro w I1 J1 hw a1 b1 g1 t1 A1 f1
      refine aw_goto (t := 37) dX7_find_32 (by decide) ?_
      exact aw_iret dX7_find_37 rfl (hQ w I1 J1 h2 hw a1 b1 g1 t1 A1 f1) (Nat.zero_le _) (Nat.zero_le _)
theorem tX7_working {G : aw_G} {d : Nat} {Ω : aw_O} {I : aw_MI} {J : aw_MJ} {Q : Int32 → aw_O → aw_MI → aw_MJ → Prop} {x : Int32} {n m t : Nat} (hM : aw_main Ω 0) (hn : I 1 0 = nI n) (hn3 : n ≤ 3) (hm : I 1 2 = nI m) (hm6 : m ≤ 6) (ht : I 1 1 = nI t) (hd : 6 ≤ d) (kB : sp_set x m = 0 → Q (-2) Ω I J) (kS : ¬ sp_set x m = 0 → sp_hl (I 2) 1 n = 0 → Q (-3) Ω I J) (hQ : ∀ S I' J', x = nI S → S < 2 ^ m → ¬ sp_hl (I 2) 1 n = 0 → sv_I 22 I I' → sv_J 22 J J' → Q (cx_res I n m t S) Ω I' J') : aw_Call G MX7_working d 0 0 [.ref (aw_ad G 0), .int x] Ω I J (aw_QI Q) := by
  refine aw_enter (by decide +kernel) rfl (Nat.le_of_ble_eq_true rfl) ?_
  show AW G MX7_working (aw_nx Ω) d 0 0 (aw_QI Q) Ω I J 0 0 [.ref (aw_ad G 0), .int x] 0 []
  refine aw_aload_n dX7_working_0 rfl ?_
  refine aw_aload_n dX7_working_1 rfl ?_
  refine aw_iload_n dX7_working_2 rfl ?_
  refine aw_cvI (As := [_]) (d' := d - 1) dX7_working_3 lkX7_135 hM.o (by omega) rfl rfl (Nat.le_of_ble_eq_true rfl) ⟨Nat.le_refl _, Nat.le_refl _⟩ (tX7_isSet hM hm (by omega) ?_)
  refine aw_if_ne (t := 13) dX7_working_6 (by decide) (fun h1 => ?_) (fun h1 => ?_)
  · skip
    have kh1 := h1
    obtain ⟨S, hS, rfl⟩ := sp_set1 hm6 h1
    refine aw_iconst (v := nI 0) dX7_working_13 (by decide) ?_
    refine aw_iload_n dX7_working_14 rfl ?_
    refine aw_cvI (As := [_, _]) (d' := d - 1) dX7_working_15 lkX7_138 hM.o (by omega) rfl rfl (Nat.le_of_ble_eq_true rfl) ⟨Nat.le_refl _, Nat.le_refl _⟩ (tX7_find hM hn hn3 hm hm6 ht hS (by omega) ?_ ?_ ?_)
    · skip
      intro p0
      exact aw_iret dX7_working_18 rfl (kS kh1 p0) (Nat.zero_le _) (Nat.zero_le _)
    · skip
      intro I1 J1 p0 a1 b1 f1
      exact aw_iret dX7_working_18 rfl (by have q := hQ S I1 J1 rfl hS p0 a1 b1; rw [f1] at q; exact q) (Nat.zero_le _) (Nat.zero_le _)
    · skip
      intro w I1 J1 p0 hw a1 b1 g1 t1 A1 f1
      have h64 : 2 ^ m ≤ 2 ^ 6 := Nat.pow_le_pow_right (by decide) hm6
      have hn1 : I1 1 0 = nI n := by rw [a1.1 1 (by decide)]; exact hn
      have hm1 : I1 1 2 = nI m := by rw [a1.1 1 (by decide)]; exact hm
      exact aw_iret dX7_working_18 rfl (by have q := hQ S I1 J1 rfl hS p0 a1 b1; rw [f1] at q; exact q) (Nat.zero_le _) (Nat.zero_le _)
  · skip
    refine aw_iconst (v := nI 1) dX7_working_9 (by decide) ?_
    refine aw_goto (t := 14) dX7_working_10 (by decide) ?_
    refine aw_iload_n dX7_working_14 rfl ?_
    refine aw_cvI (As := [_, _]) (d' := d - 1) dX7_working_15 lkX7_138 hM.o (by omega) rfl rfl (Nat.le_of_ble_eq_true rfl) ⟨Nat.le_refl _, Nat.le_refl _⟩ (tX7_findB hM ?_)
    · skip
      exact aw_iret dX7_working_18 rfl (kB h1) (Nat.zero_le _) (Nat.zero_le _)
theorem tX7_answer {G : aw_G} {d : Nat} {Ω : aw_O} {I : aw_MI} {J : aw_MJ} {Q : Int64 → aw_O → aw_MI → aw_MJ → Prop} {x y v : Int32} {n m t : Nat} (hM : aw_main Ω 0) (hn : I 1 0 = nI n) (hn3 : n ≤ 3) (hm : I 1 2 = nI m) (hm6 : m ≤ 6) (ht : I 1 1 = nI t) (hd : 6 ≤ d) (kB : sp_set x m = 0 ∨ sp_var y n = 0 ∨ sp_part v = 0 → Q (-4611686018427387904 + (-2 : Int32).toInt64) Ω I J) (kS : ¬ (sp_set x m = 0 ∨ sp_var y n = 0 ∨ sp_part v = 0) → sp_hl (I 2) 1 n = 0 → Q (-4611686018427387904 + (-3 : Int32).toInt64) Ω I J) (kN : ∀ S i I' J', x = nI S → S < 2 ^ m → y = nI i → i < n → ¬ (sp_set x m = 0 ∨ sp_var y n = 0 ∨ sp_part v = 0) → ¬ sp_hl (I 2) 1 n = 0 → sv_I 22 I I' → sv_J 22 J J' → cx_res I n m t S = -1 → Q (-4611686018427387904 + (-1 : Int32).toInt64) Ω I' J') (hQ : ∀ S i w I' J', x = nI S → S < 2 ^ m → y = nI i → i < n → ¬ (sp_set x m = 0 ∨ sp_var y n = 0 ∨ sp_part v = 0) → ¬ sp_hl (I 2) 1 n = 0 → w < 2 ^ m → sv_I 22 I I' → sv_J 22 J J' → cx_gb I 1 n m (nI S) (nI t) w = true → cx_res I n m t S = nI w → Q (sp_told (cx_v I 1 n m w (nI t) i) (cx_b I 1 n m w) v) Ω I' J') : aw_Call G MX7_answer d 0 0 [.ref (aw_ad G 0), .int x, .int y, .int v] Ω I J (aw_QL Q) := by
  refine aw_enter (by decide +kernel) rfl (Nat.le_of_ble_eq_true rfl) ?_
  show AW G MX7_answer (aw_nx Ω) d 0 0 (aw_QL Q) Ω I J 0 0 [.ref (aw_ad G 0), .int x, .int y, .int v, .null] 0 []
  refine aw_aload_n dX7_answer_0 rfl ?_
  refine aw_aload_n dX7_answer_1 rfl ?_
  refine aw_iload_n dX7_answer_2 rfl ?_
  refine aw_cvI (As := [_]) (d' := d - 1) dX7_answer_3 lkX7_135 hM.o (by omega) rfl rfl (Nat.le_of_ble_eq_true rfl) ⟨Nat.le_refl _, Nat.le_refl _⟩ (tX7_isSet hM hm (by omega) ?_)
  refine aw_if_eq (t := 24) dX7_answer_6 (by decide) (fun h1 => ?_) (fun h1 => ?_)
  · skip
    refine aw_iconst (v := nI 1) dX7_answer_24 (by decide) ?_
    refine aw_goto (t := 29) dX7_answer_25 (by decide) ?_
    refine aw_iload_n dX7_answer_29 rfl ?_
    refine aw_cvI (As := [_, _]) (d' := d - 1) dX7_answer_30 lkX7_138 hM.o (by omega) rfl rfl (Nat.le_of_ble_eq_true rfl) ⟨Nat.le_refl _, Nat.le_refl _⟩ (tX7_findB hM ?_)
    · skip
      refine aw_istore dX7_answer_33 (by decide) ?_
      refine aw_lv (lv2 := [.ref _, .int _, .int _, .int _, .int _]) rfl ?_
      refine aw_iload dX7_answer_35 rfl ?_
      refine aw_if_ge (t := 48) dX7_answer_37 (by decide) (fun h2 => absurd h2 (by decide)) (fun h2 => ?_)
      refine aw_ldc2 (v := -4611686018427387904) dX7_answer_40 (aw_pl 502 (by decide +kernel) rfl) ?_
      refine aw_iload dX7_answer_43 rfl ?_
      refine aw_pc (pc2 := 45) rfl ?_
      refine aw_i2l dX7_answer_45 ?_
      refine aw_ladd dX7_answer_46 ?_
      exact aw_lret dX7_answer_47 rfl (kB (Or.inl h1)) (Nat.zero_le _) (Nat.zero_le _)
  · skip
    have kh1 := h1
    obtain ⟨S, hS, rfl⟩ := sp_set1 hm6 h1
    refine aw_aload_n dX7_answer_9 rfl ?_
    refine aw_iload_n dX7_answer_10 rfl ?_
    refine aw_cvI (As := [_]) (d' := d - 1) dX7_answer_11 lkX7_63 hM.o (by omega) rfl rfl (Nat.le_of_ble_eq_true rfl) ⟨Nat.le_refl _, Nat.le_refl _⟩ (tX7_isVariable hM hn ?_)
    refine aw_if_eq (t := 24) dX7_answer_14 (by decide) (fun h3 => ?_) (fun h3 => ?_)
    · skip
      refine aw_iconst (v := nI 1) dX7_answer_24 (by decide) ?_
      refine aw_goto (t := 29) dX7_answer_25 (by decide) ?_
      refine aw_iload_n dX7_answer_29 rfl ?_
      refine aw_cvI (As := [_, _]) (d' := d - 1) dX7_answer_30 lkX7_138 hM.o (by omega) rfl rfl (Nat.le_of_ble_eq_true rfl) ⟨Nat.le_refl _, Nat.le_refl _⟩ (tX7_findB hM ?_)
      · skip
        refine aw_istore dX7_answer_33 (by decide) ?_
        refine aw_lv (lv2 := [.ref _, .int _, .int _, .int _, .int _]) rfl ?_
        refine aw_iload dX7_answer_35 rfl ?_
        refine aw_if_ge (t := 48) dX7_answer_37 (by decide) (fun h4 => absurd h4 (by decide)) (fun h4 => ?_)
        refine aw_ldc2 (v := -4611686018427387904) dX7_answer_40 (aw_pl 502 (by decide +kernel) rfl) ?_
        refine aw_iload dX7_answer_43 rfl ?_
        refine aw_pc (pc2 := 45) rfl ?_
        refine aw_i2l dX7_answer_45 ?_
        refine aw_ladd dX7_answer_46 ?_
        exact aw_lret dX7_answer_47 rfl (kB (Or.inr (Or.inl h3))) (Nat.zero_le _) (Nat.zero_le _)
    · skip
      have kh3 := h3
      obtain ⟨i, hi, rfl⟩ := sp_var1 h3
      refine aw_iload_n dX7_answer_17 rfl ?_
      refine aw_csI (As := [_]) (d' := d - 1) dX7_answer_18 lkX7_142 (by omega) rfl rfl (Nat.le_of_ble_eq_true rfl) ⟨Nat.le_refl _, Nat.le_refl _⟩ (tX7_isPart ?_)
      refine aw_if_ne (t := 28) dX7_answer_21 (by decide) (fun h5 => ?_) (fun h5 => ?_)
      · skip
        refine aw_iconst (v := nI 0) dX7_answer_28 (by decide) ?_
        refine aw_iload_n dX7_answer_29 rfl ?_
        refine aw_cvI (As := [_, _]) (d' := d - 1) dX7_answer_30 lkX7_138 hM.o (by omega) rfl rfl (Nat.le_of_ble_eq_true rfl) ⟨Nat.le_refl _, Nat.le_refl _⟩ (tX7_find hM hn hn3 hm hm6 ht hS (by omega) ?_ ?_ ?_)
        · skip
          intro p0
          refine aw_istore dX7_answer_33 (by decide) ?_
          refine aw_lv (lv2 := [.ref _, .int _, .int _, .int _, .int _]) rfl ?_
          refine aw_iload dX7_answer_35 rfl ?_
          refine aw_if_ge (t := 48) dX7_answer_37 (by decide) (fun h6 => absurd h6 (by decide)) (fun h6 => ?_)
          refine aw_ldc2 (v := -4611686018427387904) dX7_answer_40 (aw_pl 502 (by decide +kernel) rfl) ?_
          refine aw_iload dX7_answer_43 rfl ?_
          refine aw_pc (pc2 := 45) rfl ?_
          refine aw_i2l dX7_answer_45 ?_
          refine aw_ladd dX7_answer_46 ?_
          exact aw_lret dX7_answer_47 rfl (kS (by intro q; rcases q with q | q | q <;> exact absurd q (by assumption)) p0) (Nat.zero_le _) (Nat.zero_le _)
        · skip
          intro I1 J1 p0 a1 b1 f1
          refine aw_istore dX7_answer_33 (by decide) ?_
          refine aw_lv (lv2 := [.ref _, .int _, .int _, .int _, .int _]) rfl ?_
          refine aw_iload dX7_answer_35 rfl ?_
          refine aw_if_ge (t := 48) dX7_answer_37 (by decide) (fun h7 => absurd h7 (by decide)) (fun h7 => ?_)
          refine aw_ldc2 (v := -4611686018427387904) dX7_answer_40 (aw_pl 502 (by decide +kernel) rfl) ?_
          refine aw_iload dX7_answer_43 rfl ?_
          refine aw_pc (pc2 := 45) rfl ?_
          refine aw_i2l dX7_answer_45 ?_
          refine aw_ladd dX7_answer_46 ?_
          exact aw_lret dX7_answer_47 rfl (kN S i I1 J1 rfl hS rfl hi (by intro q; rcases q with q | q | q <;> exact absurd q (by assumption)) p0 a1 b1 f1) (Nat.zero_le _) (Nat.zero_le _)
        · skip
          intro w I1 J1 p0 hw a1 b1 g1 t1 A1 f1
          have h64 : 2 ^ m ≤ 2 ^ 6 := Nat.pow_le_pow_right (by decide) hm6
          have hn1 : I1 1 0 = nI n := by rw [a1.1 1 (by decide)]; exact hn
          have hm1 : I1 1 2 = nI m := by rw [a1.1 1 (by decide)]; exact hm
          refine aw_istore dX7_answer_33 (by decide) ?_
          refine aw_lv (lv2 := [.ref _, .int _, .int _, .int _, .int _]) rfl ?_
          refine aw_iload dX7_answer_35 rfl ?_
          refine aw_if_ge (t := 48) dX7_answer_37 (by decide) (fun h8 => ?_) (fun h8 => ?_)
          · skip
            refine aw_aload_n dX7_answer_48 rfl ?_
            refine aw_getR dX7_answer_49 flX7_27 hM.o hM.p3 ?_
            refine aw_getR dX7_answer_52 flX7_147 hM.q3.o hM.q3.p1 ?_
            refine aw_getR dX7_answer_55 flX7_151 hM.q3.q1.o hM.q3.q1.p0 ?_
            refine aw_iload_n dX7_answer_58 rfl ?_
            refine aw_pc (pc2 := 59) rfl ?_
            refine aw_laldv (v := cx_v I 1 n m w (nI t) i) dX7_answer_59 hM.q3.q1.s0 rfl (by omega) (A1.2.2.1 i hi).1 ?_
            refine aw_aload_n dX7_answer_60 rfl ?_
            refine aw_getR dX7_answer_61 flX7_27 hM.o hM.p3 ?_
            refine aw_getR dX7_answer_64 flX7_147 hM.q3.o hM.q3.p1 ?_
            refine aw_getJ dX7_answer_67 flX7_157 hM.q3.q1.o ?_
            refine aw_toL A1.1 ?_
            refine aw_iload_n dX7_answer_70 rfl ?_
            refine aw_pc (pc2 := 71) rfl ?_
            refine aw_csL (As := [_, _, _]) (d' := d - 1) dX7_answer_71 lkX7_161 (by omega) rfl rfl (Nat.le_of_ble_eq_true rfl) ⟨Nat.le_refl _, Nat.le_refl _⟩ (tX3_told (by omega) ?_)
            exact aw_lret dX7_answer_74 rfl (hQ S i w I1 J1 rfl hS rfl hi (by intro q; rcases q with q | q | q <;> exact absurd q (by assumption)) p0 (by omega) a1 b1 g1 f1) (Nat.zero_le _) (Nat.zero_le _)
          · skip
            exact absurd (nI_pos' (by omega)) h8
      · skip
        refine aw_iconst (v := nI 1) dX7_answer_24 (by decide) ?_
        refine aw_goto (t := 29) dX7_answer_25 (by decide) ?_
        refine aw_iload_n dX7_answer_29 rfl ?_
        refine aw_cvI (As := [_, _]) (d' := d - 1) dX7_answer_30 lkX7_138 hM.o (by omega) rfl rfl (Nat.le_of_ble_eq_true rfl) ⟨Nat.le_refl _, Nat.le_refl _⟩ (tX7_findB hM ?_)
        · skip
          refine aw_istore dX7_answer_33 (by decide) ?_
          refine aw_lv (lv2 := [.ref _, .int _, .int _, .int _, .int _]) rfl ?_
          refine aw_iload dX7_answer_35 rfl ?_
          refine aw_if_ge (t := 48) dX7_answer_37 (by decide) (fun h9 => absurd h9 (by decide)) (fun h9 => ?_)
          refine aw_ldc2 (v := -4611686018427387904) dX7_answer_40 (aw_pl 502 (by decide +kernel) rfl) ?_
          refine aw_iload dX7_answer_43 rfl ?_
          refine aw_pc (pc2 := 45) rfl ?_
          refine aw_i2l dX7_answer_45 ?_
          refine aw_ladd dX7_answer_46 ?_
          exact aw_lret dX7_answer_47 rfl (kB (Or.inr (Or.inr (h5)))) (Nat.zero_le _) (Nat.zero_le _)
def cx_wo (I : aw_MI) (c n m w : Nat) (t : Int32) : Int64 := sp_w2 (sp_w1 (I (c + 2)) (cx_v I c n m w t) n) (fun l => sp_bd I c l t) (cx_y I c n m w t) m
theorem sp_w1_c {p : Nat → Int32} {x x' : Nat → Int64} : ∀ {n : Nat}, (∀ i, i < n → x i = x' i) → sp_w1 p x n = sp_w1 p x' n
  | 0, _ => rfl
  | n + 1, h => by
    unfold sp_w1
    rw [sp_w1_c (fun i hi => h i (by omega)), h n (by omega)]
theorem sp_w2_c {a : Int64} {b b' : Nat → Int32} {y y' : Nat → Int64} : ∀ {m : Nat}, (∀ l, l < m → b l = b' l) → (∀ l, l < m → y l = y' l) → sp_w2 a b y m = sp_w2 a b' y' m
  | 0, _, _ => rfl
  | m + 1, h, g => by
    unfold sp_w2
    rw [sp_w2_c (fun l hl => h l (by omega)) (fun l hl => g l (by omega)), h m (by omega), g m (by omega)]
theorem cx_wth {I0 I : aw_MI} {J : aw_MJ} {c n m w s : Nat} {t : Int32} (h : ∀ a, a < s → I a = I0 a) (hc : c + 6 < s) (ht : I s 10 = t) (hm : m ≤ 6) (hA : cx_At I0 c n m w t s J) : sp_wth I J c (s + 1) n m (I s 10) = cx_wo I0 c n m w t := by
  unfold sp_wth cx_wo
  rw [h (c + 2) (by omega), ht, sp_w1_c (fun i hi => (hA.2.2.1 i hi).1)]
  exact sp_w2_c (fun l _ => sp_bd_c h hc) (fun l hl => (hA.2.2.2 l (by omega)).1)
theorem tX7_worth {G : aw_G} {d : Nat} {Ω : aw_O} {I : aw_MI} {J : aw_MJ} {Q : Int64 → aw_O → aw_MI → aw_MJ → Prop} {x v : Int32} {n m t : Nat} (hM : aw_main Ω 0) (hn : I 1 0 = nI n) (hn3 : n ≤ 3) (hm : I 1 2 = nI m) (hm6 : m ≤ 6) (ht : I 1 1 = nI t) (hd : 6 ≤ d) (kB : sp_set x m = 0 ∨ sp_part v = 0 → Q (-4611686018427387904 + (-2 : Int32).toInt64) Ω I J) (kS : ¬ (sp_set x m = 0 ∨ sp_part v = 0) → sp_hl (I 2) 1 n = 0 → Q (-4611686018427387904 + (-3 : Int32).toInt64) Ω I J) (kN : ∀ S I' J', x = nI S → S < 2 ^ m → ¬ (sp_set x m = 0 ∨ sp_part v = 0) → ¬ sp_hl (I 2) 1 n = 0 → sv_I 22 I I' → sv_J 22 J J' → cx_res I n m t S = -1 → Q (-4611686018427387904 + (-1 : Int32).toInt64) Ω I' J') (hQ : ∀ S w I' J', x = nI S → S < 2 ^ m → ¬ (sp_set x m = 0 ∨ sp_part v = 0) → ¬ sp_hl (I 2) 1 n = 0 → w < 2 ^ m → sv_I 22 I I' → sv_J 22 J J' → cx_gb I 1 n m (nI S) (nI t) w = true → cx_res I n m t S = nI w → Q (sp_told (cx_wo I 1 n m w (nI t)) (2 * cx_b I 1 n m w) v) Ω I' J') : aw_Call G MX7_worth d 0 0 [.ref (aw_ad G 0), .int x, .int v] Ω I J (aw_QL Q) := by
  refine aw_enter (by decide +kernel) rfl (Nat.le_of_ble_eq_true rfl) ?_
  show AW G MX7_worth (aw_nx Ω) d 0 0 (aw_QL Q) Ω I J 0 0 [.ref (aw_ad G 0), .int x, .int v, .null] 0 []
  refine aw_aload_n dX7_worth_0 rfl ?_
  refine aw_aload_n dX7_worth_1 rfl ?_
  refine aw_iload_n dX7_worth_2 rfl ?_
  refine aw_cvI (As := [_]) (d' := d - 1) dX7_worth_3 lkX7_135 hM.o (by omega) rfl rfl (Nat.le_of_ble_eq_true rfl) ⟨Nat.le_refl _, Nat.le_refl _⟩ (tX7_isSet hM hm (by omega) ?_)
  refine aw_if_eq (t := 16) dX7_worth_6 (by decide) (fun h1 => ?_) (fun h1 => ?_)
  · skip
    refine aw_iconst (v := nI 1) dX7_worth_16 (by decide) ?_
    refine aw_goto (t := 21) dX7_worth_17 (by decide) ?_
    refine aw_iload_n dX7_worth_21 rfl ?_
    refine aw_cvI (As := [_, _]) (d' := d - 1) dX7_worth_22 lkX7_138 hM.o (by omega) rfl rfl (Nat.le_of_ble_eq_true rfl) ⟨Nat.le_refl _, Nat.le_refl _⟩ (tX7_findB hM ?_)
    · skip
      refine aw_istore_n dX7_worth_25 (by decide) ?_
      refine aw_lv (lv2 := [.ref _, .int _, .int _, .int _]) rfl ?_
      refine aw_iload_n dX7_worth_26 rfl ?_
      refine aw_if_ge (t := 37) dX7_worth_27 (by decide) (fun h2 => absurd h2 (by decide)) (fun h2 => ?_)
      refine aw_ldc2 (v := -4611686018427387904) dX7_worth_30 (aw_pl 502 (by decide +kernel) rfl) ?_
      refine aw_iload_n dX7_worth_33 rfl ?_
      refine aw_pc (pc2 := 34) rfl ?_
      refine aw_i2l dX7_worth_34 ?_
      refine aw_ladd dX7_worth_35 ?_
      exact aw_lret dX7_worth_36 rfl (kB (Or.inl h1)) (Nat.zero_le _) (Nat.zero_le _)
  · skip
    have kh1 := h1
    obtain ⟨S, hS, rfl⟩ := sp_set1 hm6 h1
    refine aw_iload_n dX7_worth_9 rfl ?_
    refine aw_csI (As := [_]) (d' := d - 1) dX7_worth_10 lkX7_142 (by omega) rfl rfl (Nat.le_of_ble_eq_true rfl) ⟨Nat.le_refl _, Nat.le_refl _⟩ (tX7_isPart ?_)
    refine aw_if_ne (t := 20) dX7_worth_13 (by decide) (fun h3 => ?_) (fun h3 => ?_)
    · skip
      refine aw_iconst (v := nI 0) dX7_worth_20 (by decide) ?_
      refine aw_iload_n dX7_worth_21 rfl ?_
      refine aw_cvI (As := [_, _]) (d' := d - 1) dX7_worth_22 lkX7_138 hM.o (by omega) rfl rfl (Nat.le_of_ble_eq_true rfl) ⟨Nat.le_refl _, Nat.le_refl _⟩ (tX7_find hM hn hn3 hm hm6 ht hS (by omega) ?_ ?_ ?_)
      · skip
        intro p0
        refine aw_istore_n dX7_worth_25 (by decide) ?_
        refine aw_lv (lv2 := [.ref _, .int _, .int _, .int _]) rfl ?_
        refine aw_iload_n dX7_worth_26 rfl ?_
        refine aw_if_ge (t := 37) dX7_worth_27 (by decide) (fun h4 => absurd h4 (by decide)) (fun h4 => ?_)
        refine aw_ldc2 (v := -4611686018427387904) dX7_worth_30 (aw_pl 502 (by decide +kernel) rfl) ?_
        refine aw_iload_n dX7_worth_33 rfl ?_
        refine aw_pc (pc2 := 34) rfl ?_
        refine aw_i2l dX7_worth_34 ?_
        refine aw_ladd dX7_worth_35 ?_
        exact aw_lret dX7_worth_36 rfl (kS (by intro q; rcases q with q | q <;> exact absurd q (by assumption)) p0) (Nat.zero_le _) (Nat.zero_le _)
      · skip
        intro I1 J1 p0 a1 b1 f1
        refine aw_istore_n dX7_worth_25 (by decide) ?_
        refine aw_lv (lv2 := [.ref _, .int _, .int _, .int _]) rfl ?_
        refine aw_iload_n dX7_worth_26 rfl ?_
        refine aw_if_ge (t := 37) dX7_worth_27 (by decide) (fun h5 => absurd h5 (by decide)) (fun h5 => ?_)
        refine aw_ldc2 (v := -4611686018427387904) dX7_worth_30 (aw_pl 502 (by decide +kernel) rfl) ?_
        refine aw_iload_n dX7_worth_33 rfl ?_
        refine aw_pc (pc2 := 34) rfl ?_
        refine aw_i2l dX7_worth_34 ?_
        refine aw_ladd dX7_worth_35 ?_
        exact aw_lret dX7_worth_36 rfl (kN S I1 J1 rfl hS (by intro q; rcases q with q | q <;> exact absurd q (by assumption)) p0 a1 b1 f1) (Nat.zero_le _) (Nat.zero_le _)
      · skip
        intro w I1 J1 p0 hw a1 b1 g1 t1 A1 f1
        have h64 : 2 ^ m ≤ 2 ^ 6 := Nat.pow_le_pow_right (by decide) hm6
        have hn1 : I1 1 0 = nI n := by rw [a1.1 1 (by decide)]; exact hn
        have hm1 : I1 1 2 = nI m := by rw [a1.1 1 (by decide)]; exact hm
        refine aw_istore_n dX7_worth_25 (by decide) ?_
        refine aw_lv (lv2 := [.ref _, .int _, .int _, .int _]) rfl ?_
        refine aw_iload_n dX7_worth_26 rfl ?_
        refine aw_if_ge (t := 37) dX7_worth_27 (by decide) (fun h6 => ?_) (fun h6 => ?_)
        · skip
          refine aw_aload_n dX7_worth_37 rfl ?_
          refine aw_getR dX7_worth_38 flX7_27 hM.o hM.p3 ?_
          refine aw_cvL (As := []) (d' := d - 1) dX7_worth_41 lkX7_167 hM.q3.o (by omega) rfl rfl (Nat.le_of_ble_eq_true rfl) ⟨Nat.le_refl _, Nat.le_refl _⟩ (tX6_twiceWorth hM.q3 hn1 hn3 hm1 hm6 (by omega) ?_)
          refine aw_toL (cx_wth (fun a ha => a1.1 a (Or.inl ha)) (by decide) t1 hm6 A1) ?_
          refine aw_ldc2 (v := 2) dX7_worth_44 (aw_pl 520 (by decide +kernel) rfl) ?_
          refine aw_aload_n dX7_worth_47 rfl ?_
          refine aw_pc (pc2 := 48) rfl ?_
          refine aw_getR dX7_worth_48 flX7_27 hM.o hM.p3 ?_
          refine aw_getR dX7_worth_51 flX7_147 hM.q3.o hM.q3.p1 ?_
          refine aw_getJ dX7_worth_54 flX7_157 hM.q3.q1.o ?_
          refine aw_toL A1.1 ?_
          refine aw_lmul dX7_worth_57 ?_
          refine aw_iload_n dX7_worth_58 rfl ?_
          refine aw_csL (As := [_, _, _]) (d' := d - 1) dX7_worth_59 lkX7_161 (by omega) rfl rfl (Nat.le_of_ble_eq_true rfl) ⟨Nat.le_refl _, Nat.le_refl _⟩ (tX3_told (by omega) ?_)
          refine aw_pc (pc2 := 62) rfl ?_
          exact aw_lret dX7_worth_62 rfl (hQ S w I1 J1 rfl hS (by intro q; rcases q with q | q <;> exact absurd q (by assumption)) p0 (by omega) a1 b1 g1 f1) (Nat.zero_le _) (Nat.zero_le _)
        · skip
          exact absurd (nI_pos' (by omega)) h6
    · skip
      refine aw_iconst (v := nI 1) dX7_worth_16 (by decide) ?_
      refine aw_goto (t := 21) dX7_worth_17 (by decide) ?_
      refine aw_iload_n dX7_worth_21 rfl ?_
      refine aw_cvI (As := [_, _]) (d' := d - 1) dX7_worth_22 lkX7_138 hM.o (by omega) rfl rfl (Nat.le_of_ble_eq_true rfl) ⟨Nat.le_refl _, Nat.le_refl _⟩ (tX7_findB hM ?_)
      · skip
        refine aw_istore_n dX7_worth_25 (by decide) ?_
        refine aw_lv (lv2 := [.ref _, .int _, .int _, .int _]) rfl ?_
        refine aw_iload_n dX7_worth_26 rfl ?_
        refine aw_if_ge (t := 37) dX7_worth_27 (by decide) (fun h7 => absurd h7 (by decide)) (fun h7 => ?_)
        refine aw_ldc2 (v := -4611686018427387904) dX7_worth_30 (aw_pl 502 (by decide +kernel) rfl) ?_
        refine aw_iload_n dX7_worth_33 rfl ?_
        refine aw_pc (pc2 := 34) rfl ?_
        refine aw_i2l dX7_worth_34 ?_
        refine aw_ladd dX7_worth_35 ?_
        exact aw_lret dX7_worth_36 rfl (kB (Or.inr (h3))) (Nat.zero_le _) (Nat.zero_le _)
theorem tX7_weight {G : aw_G} {d : Nat} {Ω : aw_O} {I : aw_MI} {J : aw_MJ} {Q : Int64 → aw_O → aw_MI → aw_MJ → Prop} {x y v : Int32} {n m t : Nat} (hM : aw_main Ω 0) (hn : I 1 0 = nI n) (hn3 : n ≤ 3) (hm : I 1 2 = nI m) (hm6 : m ≤ 6) (ht : I 1 1 = nI t) (hd : 6 ≤ d) (kB : sp_set x m = 0 ∨ sp_var y m = 0 ∨ sp_of x y = 0 ∨ sp_part v = 0 → Q (-4611686018427387904 + (-2 : Int32).toInt64) Ω I J) (kS : ¬ (sp_set x m = 0 ∨ sp_var y m = 0 ∨ sp_of x y = 0 ∨ sp_part v = 0) → sp_hl (I 2) 1 n = 0 → Q (-4611686018427387904 + (-3 : Int32).toInt64) Ω I J) (kN : ∀ S i I' J', x = nI S → S < 2 ^ m → y = nI i → i < m → ¬ (sp_set x m = 0 ∨ sp_var y m = 0 ∨ sp_of x y = 0 ∨ sp_part v = 0) → ¬ sp_hl (I 2) 1 n = 0 → sv_I 22 I I' → sv_J 22 J J' → cx_res I n m t S = -1 → Q (-4611686018427387904 + (-1 : Int32).toInt64) Ω I' J') (hQ : ∀ S i w I' J', x = nI S → S < 2 ^ m → y = nI i → i < m → ¬ (sp_set x m = 0 ∨ sp_var y m = 0 ∨ sp_of x y = 0 ∨ sp_part v = 0) → ¬ sp_hl (I 2) 1 n = 0 → w < 2 ^ m → sv_I 22 I I' → sv_J 22 J J' → cx_gb I 1 n m (nI S) (nI t) w = true → cx_res I n m t S = nI w → Q (sp_told (cx_y I 1 n m w (nI t) i) (cx_b I 1 n m w) v) Ω I' J') : aw_Call G MX7_weight d 0 0 [.ref (aw_ad G 0), .int x, .int y, .int v] Ω I J (aw_QL Q) := by
  refine aw_enter (by decide +kernel) rfl (Nat.le_of_ble_eq_true rfl) ?_
  show AW G MX7_weight (aw_nx Ω) d 0 0 (aw_QL Q) Ω I J 0 0 [.ref (aw_ad G 0), .int x, .int y, .int v, .null] 0 []
  refine aw_aload_n dX7_weight_0 rfl ?_
  refine aw_aload_n dX7_weight_1 rfl ?_
  refine aw_iload_n dX7_weight_2 rfl ?_
  refine aw_cvI (As := [_]) (d' := d - 1) dX7_weight_3 lkX7_135 hM.o (by omega) rfl rfl (Nat.le_of_ble_eq_true rfl) ⟨Nat.le_refl _, Nat.le_refl _⟩ (tX7_isSet hM hm (by omega) ?_)
  refine aw_if_eq (t := 32) dX7_weight_6 (by decide) (fun h1 => ?_) (fun h1 => ?_)
  · skip
    refine aw_iconst (v := nI 1) dX7_weight_32 (by decide) ?_
    refine aw_goto (t := 37) dX7_weight_33 (by decide) ?_
    refine aw_iload_n dX7_weight_37 rfl ?_
    refine aw_cvI (As := [_, _]) (d' := d - 1) dX7_weight_38 lkX7_138 hM.o (by omega) rfl rfl (Nat.le_of_ble_eq_true rfl) ⟨Nat.le_refl _, Nat.le_refl _⟩ (tX7_findB hM ?_)
    · skip
      refine aw_istore dX7_weight_41 (by decide) ?_
      refine aw_lv (lv2 := [.ref _, .int _, .int _, .int _, .int _]) rfl ?_
      refine aw_iload dX7_weight_43 rfl ?_
      refine aw_if_ge (t := 56) dX7_weight_45 (by decide) (fun h2 => absurd h2 (by decide)) (fun h2 => ?_)
      refine aw_ldc2 (v := -4611686018427387904) dX7_weight_48 (aw_pl 502 (by decide +kernel) rfl) ?_
      refine aw_iload dX7_weight_51 rfl ?_
      refine aw_pc (pc2 := 53) rfl ?_
      refine aw_i2l dX7_weight_53 ?_
      refine aw_ladd dX7_weight_54 ?_
      exact aw_lret dX7_weight_55 rfl (kB (Or.inl h1)) (Nat.zero_le _) (Nat.zero_le _)
  · skip
    have kh1 := h1
    obtain ⟨S, hS, rfl⟩ := sp_set1 hm6 h1
    refine aw_aload_n dX7_weight_9 rfl ?_
    refine aw_iload_n dX7_weight_10 rfl ?_
    refine aw_cvI (As := [_]) (d' := d - 1) dX7_weight_11 lkX7_100 hM.o (by omega) rfl rfl (Nat.le_of_ble_eq_true rfl) ⟨Nat.le_refl _, Nat.le_refl _⟩ (tX7_isLine hM hm ?_)
    refine aw_if_eq (t := 32) dX7_weight_14 (by decide) (fun h3 => ?_) (fun h3 => ?_)
    · skip
      refine aw_iconst (v := nI 1) dX7_weight_32 (by decide) ?_
      refine aw_goto (t := 37) dX7_weight_33 (by decide) ?_
      refine aw_iload_n dX7_weight_37 rfl ?_
      refine aw_cvI (As := [_, _]) (d' := d - 1) dX7_weight_38 lkX7_138 hM.o (by omega) rfl rfl (Nat.le_of_ble_eq_true rfl) ⟨Nat.le_refl _, Nat.le_refl _⟩ (tX7_findB hM ?_)
      · skip
        refine aw_istore dX7_weight_41 (by decide) ?_
        refine aw_lv (lv2 := [.ref _, .int _, .int _, .int _, .int _]) rfl ?_
        refine aw_iload dX7_weight_43 rfl ?_
        refine aw_if_ge (t := 56) dX7_weight_45 (by decide) (fun h4 => absurd h4 (by decide)) (fun h4 => ?_)
        refine aw_ldc2 (v := -4611686018427387904) dX7_weight_48 (aw_pl 502 (by decide +kernel) rfl) ?_
        refine aw_iload dX7_weight_51 rfl ?_
        refine aw_pc (pc2 := 53) rfl ?_
        refine aw_i2l dX7_weight_53 ?_
        refine aw_ladd dX7_weight_54 ?_
        exact aw_lret dX7_weight_55 rfl (kB (Or.inr (Or.inl h3))) (Nat.zero_le _) (Nat.zero_le _)
    · skip
      have kh3 := h3
      obtain ⟨i, hi, rfl⟩ := sp_var1 h3
      refine aw_iload_n dX7_weight_17 rfl ?_
      refine aw_iload_n dX7_weight_18 rfl ?_
      refine aw_csI (As := [_, _]) (d' := d - 1) dX7_weight_19 lkX7_173 (by omega) rfl rfl (Nat.le_of_ble_eq_true rfl) ⟨Nat.le_refl _, Nat.le_refl _⟩ (tX7_isOf ?_)
      refine aw_if_eq (t := 32) dX7_weight_22 (by decide) (fun h5 => ?_) (fun h5 => ?_)
      · skip
        refine aw_iconst (v := nI 1) dX7_weight_32 (by decide) ?_
        refine aw_goto (t := 37) dX7_weight_33 (by decide) ?_
        refine aw_iload_n dX7_weight_37 rfl ?_
        refine aw_cvI (As := [_, _]) (d' := d - 1) dX7_weight_38 lkX7_138 hM.o (by omega) rfl rfl (Nat.le_of_ble_eq_true rfl) ⟨Nat.le_refl _, Nat.le_refl _⟩ (tX7_findB hM ?_)
        · skip
          refine aw_istore dX7_weight_41 (by decide) ?_
          refine aw_lv (lv2 := [.ref _, .int _, .int _, .int _, .int _]) rfl ?_
          refine aw_iload dX7_weight_43 rfl ?_
          refine aw_if_ge (t := 56) dX7_weight_45 (by decide) (fun h6 => absurd h6 (by decide)) (fun h6 => ?_)
          refine aw_ldc2 (v := -4611686018427387904) dX7_weight_48 (aw_pl 502 (by decide +kernel) rfl) ?_
          refine aw_iload dX7_weight_51 rfl ?_
          refine aw_pc (pc2 := 53) rfl ?_
          refine aw_i2l dX7_weight_53 ?_
          refine aw_ladd dX7_weight_54 ?_
          exact aw_lret dX7_weight_55 rfl (kB (Or.inr (Or.inr (Or.inl h5)))) (Nat.zero_le _) (Nat.zero_le _)
      · skip
        refine aw_iload_n dX7_weight_25 rfl ?_
        refine aw_csI (As := [_]) (d' := d - 1) dX7_weight_26 lkX7_142 (by omega) rfl rfl (Nat.le_of_ble_eq_true rfl) ⟨Nat.le_refl _, Nat.le_refl _⟩ (tX7_isPart ?_)
        refine aw_if_ne (t := 36) dX7_weight_29 (by decide) (fun h7 => ?_) (fun h7 => ?_)
        · skip
          refine aw_iconst (v := nI 0) dX7_weight_36 (by decide) ?_
          refine aw_iload_n dX7_weight_37 rfl ?_
          refine aw_cvI (As := [_, _]) (d' := d - 1) dX7_weight_38 lkX7_138 hM.o (by omega) rfl rfl (Nat.le_of_ble_eq_true rfl) ⟨Nat.le_refl _, Nat.le_refl _⟩ (tX7_find hM hn hn3 hm hm6 ht hS (by omega) ?_ ?_ ?_)
          · skip
            intro p0
            refine aw_istore dX7_weight_41 (by decide) ?_
            refine aw_lv (lv2 := [.ref _, .int _, .int _, .int _, .int _]) rfl ?_
            refine aw_iload dX7_weight_43 rfl ?_
            refine aw_if_ge (t := 56) dX7_weight_45 (by decide) (fun h8 => absurd h8 (by decide)) (fun h8 => ?_)
            refine aw_ldc2 (v := -4611686018427387904) dX7_weight_48 (aw_pl 502 (by decide +kernel) rfl) ?_
            refine aw_iload dX7_weight_51 rfl ?_
            refine aw_pc (pc2 := 53) rfl ?_
            refine aw_i2l dX7_weight_53 ?_
            refine aw_ladd dX7_weight_54 ?_
            exact aw_lret dX7_weight_55 rfl (kS (by intro q; rcases q with q | q | q | q <;> exact absurd q (by assumption)) p0) (Nat.zero_le _) (Nat.zero_le _)
          · skip
            intro I1 J1 p0 a1 b1 f1
            refine aw_istore dX7_weight_41 (by decide) ?_
            refine aw_lv (lv2 := [.ref _, .int _, .int _, .int _, .int _]) rfl ?_
            refine aw_iload dX7_weight_43 rfl ?_
            refine aw_if_ge (t := 56) dX7_weight_45 (by decide) (fun h9 => absurd h9 (by decide)) (fun h9 => ?_)
            refine aw_ldc2 (v := -4611686018427387904) dX7_weight_48 (aw_pl 502 (by decide +kernel) rfl) ?_
            refine aw_iload dX7_weight_51 rfl ?_
            refine aw_pc (pc2 := 53) rfl ?_
            refine aw_i2l dX7_weight_53 ?_
            refine aw_ladd dX7_weight_54 ?_
            exact aw_lret dX7_weight_55 rfl (kN S i I1 J1 rfl hS rfl hi (by intro q; rcases q with q | q | q | q <;> exact absurd q (by assumption)) p0 a1 b1 f1) (Nat.zero_le _) (Nat.zero_le _)
          · skip
            intro w I1 J1 p0 hw a1 b1 g1 t1 A1 f1
            have h64 : 2 ^ m ≤ 2 ^ 6 := Nat.pow_le_pow_right (by decide) hm6
            have hn1 : I1 1 0 = nI n := by rw [a1.1 1 (by decide)]; exact hn
            have hm1 : I1 1 2 = nI m := by rw [a1.1 1 (by decide)]; exact hm
            refine aw_istore dX7_weight_41 (by decide) ?_
            refine aw_lv (lv2 := [.ref _, .int _, .int _, .int _, .int _]) rfl ?_
            refine aw_iload dX7_weight_43 rfl ?_
            refine aw_if_ge (t := 56) dX7_weight_45 (by decide) (fun h10 => ?_) (fun h10 => ?_)
            · skip
              refine aw_aload_n dX7_weight_56 rfl ?_
              refine aw_getR dX7_weight_57 flX7_27 hM.o hM.p3 ?_
              refine aw_getR dX7_weight_60 flX7_147 hM.q3.o hM.q3.p1 ?_
              refine aw_getR dX7_weight_63 flX7_176 hM.q3.q1.o hM.q3.q1.p1 ?_
              refine aw_iload_n dX7_weight_66 rfl ?_
              refine aw_pc (pc2 := 67) rfl ?_
              refine aw_laldv (v := cx_y I 1 n m w (nI t) i) dX7_weight_67 hM.q3.q1.s1 rfl (by omega) (A1.2.2.2 i (by omega)).1 ?_
              refine aw_aload_n dX7_weight_68 rfl ?_
              refine aw_getR dX7_weight_69 flX7_27 hM.o hM.p3 ?_
              refine aw_getR dX7_weight_72 flX7_147 hM.q3.o hM.q3.p1 ?_
              refine aw_getJ dX7_weight_75 flX7_157 hM.q3.q1.o ?_
              refine aw_toL A1.1 ?_
              refine aw_iload_n dX7_weight_78 rfl ?_
              refine aw_pc (pc2 := 79) rfl ?_
              refine aw_csL (As := [_, _, _]) (d' := d - 1) dX7_weight_79 lkX7_161 (by omega) rfl rfl (Nat.le_of_ble_eq_true rfl) ⟨Nat.le_refl _, Nat.le_refl _⟩ (tX3_told (by omega) ?_)
              exact aw_lret dX7_weight_82 rfl (hQ S i w I1 J1 rfl hS rfl hi (by intro q; rcases q with q | q | q | q <;> exact absurd q (by assumption)) p0 (by omega) a1 b1 g1 f1) (Nat.zero_le _) (Nat.zero_le _)
            · skip
              exact absurd (nI_pos' (by omega)) h10
        · skip
          refine aw_iconst (v := nI 1) dX7_weight_32 (by decide) ?_
          refine aw_goto (t := 37) dX7_weight_33 (by decide) ?_
          refine aw_iload_n dX7_weight_37 rfl ?_
          refine aw_cvI (As := [_, _]) (d' := d - 1) dX7_weight_38 lkX7_138 hM.o (by omega) rfl rfl (Nat.le_of_ble_eq_true rfl) ⟨Nat.le_refl _, Nat.le_refl _⟩ (tX7_findB hM ?_)
          · skip
            refine aw_istore dX7_weight_41 (by decide) ?_
            refine aw_lv (lv2 := [.ref _, .int _, .int _, .int _, .int _]) rfl ?_
            refine aw_iload dX7_weight_43 rfl ?_
            refine aw_if_ge (t := 56) dX7_weight_45 (by decide) (fun h11 => absurd h11 (by decide)) (fun h11 => ?_)
            refine aw_ldc2 (v := -4611686018427387904) dX7_weight_48 (aw_pl 502 (by decide +kernel) rfl) ?_
            refine aw_iload dX7_weight_51 rfl ?_
            refine aw_pc (pc2 := 53) rfl ?_
            refine aw_i2l dX7_weight_53 ?_
            refine aw_ladd dX7_weight_54 ?_
            exact aw_lret dX7_weight_55 rfl (kB (Or.inr (Or.inr (Or.inr (h7))))) (Nat.zero_le _) (Nat.zero_le _)
theorem tX7_slack {G : aw_G} {d : Nat} {Ω : aw_O} {I : aw_MI} {J : aw_MJ} {Q : Int64 → aw_O → aw_MI → aw_MJ → Prop} {x y v : Int32} {n m t : Nat} (hM : aw_main Ω 0) (hn : I 1 0 = nI n) (hn3 : n ≤ 3) (hm : I 1 2 = nI m) (hm6 : m ≤ 6) (ht : I 1 1 = nI t) (hd : 6 ≤ d) (kB : sp_set x m = 0 ∨ sp_var y m = 0 ∨ sp_part v = 0 → Q (-4611686018427387904 + (-2 : Int32).toInt64) Ω I J) (kS : ¬ (sp_set x m = 0 ∨ sp_var y m = 0 ∨ sp_part v = 0) → sp_hl (I 2) 1 n = 0 → Q (-4611686018427387904 + (-3 : Int32).toInt64) Ω I J) (kN : ∀ S i I' J', x = nI S → S < 2 ^ m → y = nI i → i < m → ¬ (sp_set x m = 0 ∨ sp_var y m = 0 ∨ sp_part v = 0) → ¬ sp_hl (I 2) 1 n = 0 → sv_I 22 I I' → sv_J 22 J J' → cx_res I n m t S = -1 → Q (-4611686018427387904 + (-1 : Int32).toInt64) Ω I' J') (hQ : ∀ S i w I' J', x = nI S → S < 2 ^ m → y = nI i → i < m → ¬ (sp_set x m = 0 ∨ sp_var y m = 0 ∨ sp_part v = 0) → ¬ sp_hl (I 2) 1 n = 0 → w < 2 ^ m → sv_I 22 I I' → sv_J 22 J J' → cx_gb I 1 n m (nI S) (nI t) w = true → cx_res I n m t S = nI w → Q (sp_told (cx_sl I 1 n m w (nI t) i) (cx_b I 1 n m w) v) Ω I' J') : aw_Call G MX7_slack d 0 0 [.ref (aw_ad G 0), .int x, .int y, .int v] Ω I J (aw_QL Q) := by
  refine aw_enter (by decide +kernel) rfl (Nat.le_of_ble_eq_true rfl) ?_
  show AW G MX7_slack (aw_nx Ω) d 0 0 (aw_QL Q) Ω I J 0 0 [.ref (aw_ad G 0), .int x, .int y, .int v, .null] 0 []
  refine aw_aload_n dX7_slack_0 rfl ?_
  refine aw_aload_n dX7_slack_1 rfl ?_
  refine aw_iload_n dX7_slack_2 rfl ?_
  refine aw_cvI (As := [_]) (d' := d - 1) dX7_slack_3 lkX7_135 hM.o (by omega) rfl rfl (Nat.le_of_ble_eq_true rfl) ⟨Nat.le_refl _, Nat.le_refl _⟩ (tX7_isSet hM hm (by omega) ?_)
  refine aw_if_eq (t := 24) dX7_slack_6 (by decide) (fun h1 => ?_) (fun h1 => ?_)
  · skip
    refine aw_iconst (v := nI 1) dX7_slack_24 (by decide) ?_
    refine aw_goto (t := 29) dX7_slack_25 (by decide) ?_
    refine aw_iload_n dX7_slack_29 rfl ?_
    refine aw_cvI (As := [_, _]) (d' := d - 1) dX7_slack_30 lkX7_138 hM.o (by omega) rfl rfl (Nat.le_of_ble_eq_true rfl) ⟨Nat.le_refl _, Nat.le_refl _⟩ (tX7_findB hM ?_)
    · skip
      refine aw_istore dX7_slack_33 (by decide) ?_
      refine aw_lv (lv2 := [.ref _, .int _, .int _, .int _, .int _]) rfl ?_
      refine aw_iload dX7_slack_35 rfl ?_
      refine aw_if_ge (t := 48) dX7_slack_37 (by decide) (fun h2 => absurd h2 (by decide)) (fun h2 => ?_)
      refine aw_ldc2 (v := -4611686018427387904) dX7_slack_40 (aw_pl 502 (by decide +kernel) rfl) ?_
      refine aw_iload dX7_slack_43 rfl ?_
      refine aw_pc (pc2 := 45) rfl ?_
      refine aw_i2l dX7_slack_45 ?_
      refine aw_ladd dX7_slack_46 ?_
      exact aw_lret dX7_slack_47 rfl (kB (Or.inl h1)) (Nat.zero_le _) (Nat.zero_le _)
  · skip
    have kh1 := h1
    obtain ⟨S, hS, rfl⟩ := sp_set1 hm6 h1
    refine aw_aload_n dX7_slack_9 rfl ?_
    refine aw_iload_n dX7_slack_10 rfl ?_
    refine aw_cvI (As := [_]) (d' := d - 1) dX7_slack_11 lkX7_100 hM.o (by omega) rfl rfl (Nat.le_of_ble_eq_true rfl) ⟨Nat.le_refl _, Nat.le_refl _⟩ (tX7_isLine hM hm ?_)
    refine aw_if_eq (t := 24) dX7_slack_14 (by decide) (fun h3 => ?_) (fun h3 => ?_)
    · skip
      refine aw_iconst (v := nI 1) dX7_slack_24 (by decide) ?_
      refine aw_goto (t := 29) dX7_slack_25 (by decide) ?_
      refine aw_iload_n dX7_slack_29 rfl ?_
      refine aw_cvI (As := [_, _]) (d' := d - 1) dX7_slack_30 lkX7_138 hM.o (by omega) rfl rfl (Nat.le_of_ble_eq_true rfl) ⟨Nat.le_refl _, Nat.le_refl _⟩ (tX7_findB hM ?_)
      · skip
        refine aw_istore dX7_slack_33 (by decide) ?_
        refine aw_lv (lv2 := [.ref _, .int _, .int _, .int _, .int _]) rfl ?_
        refine aw_iload dX7_slack_35 rfl ?_
        refine aw_if_ge (t := 48) dX7_slack_37 (by decide) (fun h4 => absurd h4 (by decide)) (fun h4 => ?_)
        refine aw_ldc2 (v := -4611686018427387904) dX7_slack_40 (aw_pl 502 (by decide +kernel) rfl) ?_
        refine aw_iload dX7_slack_43 rfl ?_
        refine aw_pc (pc2 := 45) rfl ?_
        refine aw_i2l dX7_slack_45 ?_
        refine aw_ladd dX7_slack_46 ?_
        exact aw_lret dX7_slack_47 rfl (kB (Or.inr (Or.inl h3))) (Nat.zero_le _) (Nat.zero_le _)
    · skip
      have kh3 := h3
      obtain ⟨i, hi, rfl⟩ := sp_var1 h3
      refine aw_iload_n dX7_slack_17 rfl ?_
      refine aw_csI (As := [_]) (d' := d - 1) dX7_slack_18 lkX7_142 (by omega) rfl rfl (Nat.le_of_ble_eq_true rfl) ⟨Nat.le_refl _, Nat.le_refl _⟩ (tX7_isPart ?_)
      refine aw_if_ne (t := 28) dX7_slack_21 (by decide) (fun h5 => ?_) (fun h5 => ?_)
      · skip
        refine aw_iconst (v := nI 0) dX7_slack_28 (by decide) ?_
        refine aw_iload_n dX7_slack_29 rfl ?_
        refine aw_cvI (As := [_, _]) (d' := d - 1) dX7_slack_30 lkX7_138 hM.o (by omega) rfl rfl (Nat.le_of_ble_eq_true rfl) ⟨Nat.le_refl _, Nat.le_refl _⟩ (tX7_find hM hn hn3 hm hm6 ht hS (by omega) ?_ ?_ ?_)
        · skip
          intro p0
          refine aw_istore dX7_slack_33 (by decide) ?_
          refine aw_lv (lv2 := [.ref _, .int _, .int _, .int _, .int _]) rfl ?_
          refine aw_iload dX7_slack_35 rfl ?_
          refine aw_if_ge (t := 48) dX7_slack_37 (by decide) (fun h6 => absurd h6 (by decide)) (fun h6 => ?_)
          refine aw_ldc2 (v := -4611686018427387904) dX7_slack_40 (aw_pl 502 (by decide +kernel) rfl) ?_
          refine aw_iload dX7_slack_43 rfl ?_
          refine aw_pc (pc2 := 45) rfl ?_
          refine aw_i2l dX7_slack_45 ?_
          refine aw_ladd dX7_slack_46 ?_
          exact aw_lret dX7_slack_47 rfl (kS (by intro q; rcases q with q | q | q <;> exact absurd q (by assumption)) p0) (Nat.zero_le _) (Nat.zero_le _)
        · skip
          intro I1 J1 p0 a1 b1 f1
          refine aw_istore dX7_slack_33 (by decide) ?_
          refine aw_lv (lv2 := [.ref _, .int _, .int _, .int _, .int _]) rfl ?_
          refine aw_iload dX7_slack_35 rfl ?_
          refine aw_if_ge (t := 48) dX7_slack_37 (by decide) (fun h7 => absurd h7 (by decide)) (fun h7 => ?_)
          refine aw_ldc2 (v := -4611686018427387904) dX7_slack_40 (aw_pl 502 (by decide +kernel) rfl) ?_
          refine aw_iload dX7_slack_43 rfl ?_
          refine aw_pc (pc2 := 45) rfl ?_
          refine aw_i2l dX7_slack_45 ?_
          refine aw_ladd dX7_slack_46 ?_
          exact aw_lret dX7_slack_47 rfl (kN S i I1 J1 rfl hS rfl hi (by intro q; rcases q with q | q | q <;> exact absurd q (by assumption)) p0 a1 b1 f1) (Nat.zero_le _) (Nat.zero_le _)
        · skip
          intro w I1 J1 p0 hw a1 b1 g1 t1 A1 f1
          have h64 : 2 ^ m ≤ 2 ^ 6 := Nat.pow_le_pow_right (by decide) hm6
          have hn1 : I1 1 0 = nI n := by rw [a1.1 1 (by decide)]; exact hn
          have hm1 : I1 1 2 = nI m := by rw [a1.1 1 (by decide)]; exact hm
          refine aw_istore dX7_slack_33 (by decide) ?_
          refine aw_lv (lv2 := [.ref _, .int _, .int _, .int _, .int _]) rfl ?_
          refine aw_iload dX7_slack_35 rfl ?_
          refine aw_if_ge (t := 48) dX7_slack_37 (by decide) (fun h8 => ?_) (fun h8 => ?_)
          · skip
            refine aw_aload_n dX7_slack_48 rfl ?_
            refine aw_getR dX7_slack_49 flX7_27 hM.o hM.p3 ?_
            refine aw_iload_n dX7_slack_52 rfl ?_
            refine aw_cvL (As := [_]) (d' := d - 1) dX7_slack_53 lkX7_179 hM.q3.o (by omega) rfl rfl (Nat.le_of_ble_eq_true rfl) ⟨Nat.le_refl _, Nat.le_refl _⟩ (tX6_slackOf hM.q3 hn1 hn3 (by omega) (by omega) ?_)
            refine aw_toL (cx_slk (fun a ha => a1.1 a (Or.inl ha)) (by decide) t1 A1) ?_
            refine aw_aload_n dX7_slack_56 rfl ?_
            refine aw_pc (pc2 := 57) rfl ?_
            refine aw_getR dX7_slack_57 flX7_27 hM.o hM.p3 ?_
            refine aw_getR dX7_slack_60 flX7_147 hM.q3.o hM.q3.p1 ?_
            refine aw_getJ dX7_slack_63 flX7_157 hM.q3.q1.o ?_
            refine aw_toL A1.1 ?_
            refine aw_iload_n dX7_slack_66 rfl ?_
            refine aw_csL (As := [_, _, _]) (d' := d - 1) dX7_slack_67 lkX7_161 (by omega) rfl rfl (Nat.le_of_ble_eq_true rfl) ⟨Nat.le_refl _, Nat.le_refl _⟩ (tX3_told (by omega) ?_)
            exact aw_lret dX7_slack_70 rfl (hQ S i w I1 J1 rfl hS rfl hi (by intro q; rcases q with q | q | q <;> exact absurd q (by assumption)) p0 (by omega) a1 b1 g1 f1) (Nat.zero_le _) (Nat.zero_le _)
          · skip
            exact absurd (nI_pos' (by omega)) h8
      · skip
        refine aw_iconst (v := nI 1) dX7_slack_24 (by decide) ?_
        refine aw_goto (t := 29) dX7_slack_25 (by decide) ?_
        refine aw_iload_n dX7_slack_29 rfl ?_
        refine aw_cvI (As := [_, _]) (d' := d - 1) dX7_slack_30 lkX7_138 hM.o (by omega) rfl rfl (Nat.le_of_ble_eq_true rfl) ⟨Nat.le_refl _, Nat.le_refl _⟩ (tX7_findB hM ?_)
        · skip
          refine aw_istore dX7_slack_33 (by decide) ?_
          refine aw_lv (lv2 := [.ref _, .int _, .int _, .int _, .int _]) rfl ?_
          refine aw_iload dX7_slack_35 rfl ?_
          refine aw_if_ge (t := 48) dX7_slack_37 (by decide) (fun h9 => absurd h9 (by decide)) (fun h9 => ?_)
          refine aw_ldc2 (v := -4611686018427387904) dX7_slack_40 (aw_pl 502 (by decide +kernel) rfl) ?_
          refine aw_iload dX7_slack_43 rfl ?_
          refine aw_pc (pc2 := 45) rfl ?_
          refine aw_i2l dX7_slack_45 ?_
          refine aw_ladd dX7_slack_46 ?_
          exact aw_lret dX7_slack_47 rfl (kB (Or.inr (Or.inr (h5)))) (Nat.zero_le _) (Nat.zero_le _)
def cx_ti (I : aw_MI) (c n m : Nat) (t : Int32) (w : Nat) : Int32 := sp_or (fun l => decide (cx_sl I c n m w t l = 0)) m
theorem cx_tight {I0 I : aw_MI} {J : aw_MJ} {c n m w s : Nat} {t : Int32} (h : ∀ a, a < s → I a = I0 a) (hc : c + 6 < s) (ht : I s 10 = t) (hA : cx_At I0 c n m w t s J) : sp_or (sp_tbt I J c (s + 1) n (I s 10)) m = cx_ti I0 c n m t w := by
  unfold cx_ti
  refine sp_or_c (fun l _ => ?_)
  unfold sp_tbt
  rw [cx_slk h hc ht hA]
theorem tX7_held {G : aw_G} {d : Nat} {Ω : aw_O} {I : aw_MI} {J : aw_MJ} {Q : Int32 → aw_O → aw_MI → aw_MJ → Prop} {x : Int32} {n m t : Nat} (hM : aw_main Ω 0) (hn : I 1 0 = nI n) (hn3 : n ≤ 3) (hm : I 1 2 = nI m) (hm6 : m ≤ 6) (ht : I 1 1 = nI t) (hd : 6 ≤ d) (kB : sp_set x m = 0 → Q (-2) Ω I J) (kS : ¬ (sp_set x m = 0) → sp_hl (I 2) 1 n = 0 → Q (-3) Ω I J) (kN : ∀ S I' J', x = nI S → S < 2 ^ m → ¬ (sp_set x m = 0) → ¬ sp_hl (I 2) 1 n = 0 → sv_I 22 I I' → sv_J 22 J J' → cx_res I n m t S = -1 → Q (-1) Ω I' J') (hQ : ∀ S w I' J', x = nI S → S < 2 ^ m → ¬ (sp_set x m = 0) → ¬ sp_hl (I 2) 1 n = 0 → w < 2 ^ m → sv_I 22 I I' → sv_J 22 J J' → cx_gb I 1 n m (nI S) (nI t) w = true → cx_res I n m t S = nI w → Q (cw_h I 1 n m (nI t) w) Ω I' J') : aw_Call G MX7_held d 0 0 [.ref (aw_ad G 0), .int x] Ω I J (aw_QI Q) := by
  refine aw_enter (by decide +kernel) rfl (Nat.le_of_ble_eq_true rfl) ?_
  show AW G MX7_held (aw_nx Ω) d 0 0 (aw_QI Q) Ω I J 0 0 [.ref (aw_ad G 0), .int x, .null] 0 []
  refine aw_aload_n dX7_held_0 rfl ?_
  refine aw_aload_n dX7_held_1 rfl ?_
  refine aw_iload_n dX7_held_2 rfl ?_
  refine aw_cvI (As := [_]) (d' := d - 1) dX7_held_3 lkX7_135 hM.o (by omega) rfl rfl (Nat.le_of_ble_eq_true rfl) ⟨Nat.le_refl _, Nat.le_refl _⟩ (tX7_isSet hM hm (by omega) ?_)
  refine aw_if_ne (t := 13) dX7_held_6 (by decide) (fun h1 => ?_) (fun h1 => ?_)
  · skip
    have kh1 := h1
    obtain ⟨S, hS, rfl⟩ := sp_set1 hm6 h1
    refine aw_iconst (v := nI 0) dX7_held_13 (by decide) ?_
    refine aw_iload_n dX7_held_14 rfl ?_
    refine aw_cvI (As := [_, _]) (d' := d - 1) dX7_held_15 lkX7_138 hM.o (by omega) rfl rfl (Nat.le_of_ble_eq_true rfl) ⟨Nat.le_refl _, Nat.le_refl _⟩ (tX7_find hM hn hn3 hm hm6 ht hS (by omega) ?_ ?_ ?_)
    · skip
      intro p0
      refine aw_istore_n dX7_held_18 (by decide) ?_
      refine aw_lv (lv2 := [.ref _, .int _, .int _]) rfl ?_
      refine aw_iload_n dX7_held_19 rfl ?_
      refine aw_if_ge (t := 27) dX7_held_20 (by decide) (fun h2 => absurd h2 (by decide)) (fun h2 => ?_)
      refine aw_iload_n dX7_held_23 rfl ?_
      refine aw_goto (t := 34) dX7_held_24 (by decide) ?_
      exact aw_iret dX7_held_34 rfl (kS (by assumption) p0) (Nat.zero_le _) (Nat.zero_le _)
    · skip
      intro I1 J1 p0 a1 b1 f1
      refine aw_istore_n dX7_held_18 (by decide) ?_
      refine aw_lv (lv2 := [.ref _, .int _, .int _]) rfl ?_
      refine aw_iload_n dX7_held_19 rfl ?_
      refine aw_if_ge (t := 27) dX7_held_20 (by decide) (fun h3 => absurd h3 (by decide)) (fun h3 => ?_)
      refine aw_iload_n dX7_held_23 rfl ?_
      refine aw_goto (t := 34) dX7_held_24 (by decide) ?_
      exact aw_iret dX7_held_34 rfl (kN S I1 J1 rfl hS (by assumption) p0 a1 b1 f1) (Nat.zero_le _) (Nat.zero_le _)
    · skip
      intro w I1 J1 p0 hw a1 b1 g1 t1 A1 f1
      have h64 : 2 ^ m ≤ 2 ^ 6 := Nat.pow_le_pow_right (by decide) hm6
      have hn1 : I1 1 0 = nI n := by rw [a1.1 1 (by decide)]; exact hn
      have hm1 : I1 1 2 = nI m := by rw [a1.1 1 (by decide)]; exact hm
      refine aw_istore_n dX7_held_18 (by decide) ?_
      refine aw_lv (lv2 := [.ref _, .int _, .int _]) rfl ?_
      refine aw_iload_n dX7_held_19 rfl ?_
      refine aw_if_ge (t := 27) dX7_held_20 (by decide) (fun h4 => ?_) (fun h4 => ?_)
      · skip
        refine aw_aload_n dX7_held_27 rfl ?_
        refine aw_getR dX7_held_28 flX7_27 hM.o hM.p3 ?_
        refine aw_cvI (As := []) (d' := d - 1) dX7_held_31 lkX7_183 hM.q3.o (by omega) rfl rfl (Nat.le_of_ble_eq_true rfl) ⟨Nat.le_refl _, Nat.le_refl _⟩ (tX6_heldLines hM.q3 hn1 hn3 hm1 hm6 (by omega) ?_)
        refine aw_toI (cw_held (fun a ha => a1.1 a (Or.inl ha)) (by decide) t1 A1) ?_
        exact aw_iret dX7_held_34 rfl (hQ S w I1 J1 rfl hS (by assumption) p0 (by omega) a1 b1 g1 f1) (Nat.zero_le _) (Nat.zero_le _)
      · skip
        exact absurd (nI_pos' (by omega)) h4
  · skip
    refine aw_iconst (v := nI 1) dX7_held_9 (by decide) ?_
    refine aw_goto (t := 14) dX7_held_10 (by decide) ?_
    refine aw_iload_n dX7_held_14 rfl ?_
    refine aw_cvI (As := [_, _]) (d' := d - 1) dX7_held_15 lkX7_138 hM.o (by omega) rfl rfl (Nat.le_of_ble_eq_true rfl) ⟨Nat.le_refl _, Nat.le_refl _⟩ (tX7_findB hM ?_)
    · skip
      refine aw_istore_n dX7_held_18 (by decide) ?_
      refine aw_lv (lv2 := [.ref _, .int _, .int _]) rfl ?_
      refine aw_iload_n dX7_held_19 rfl ?_
      refine aw_if_ge (t := 27) dX7_held_20 (by decide) (fun h5 => absurd h5 (by decide)) (fun h5 => ?_)
      refine aw_iload_n dX7_held_23 rfl ?_
      refine aw_goto (t := 34) dX7_held_24 (by decide) ?_
      exact aw_iret dX7_held_34 rfl (kB h1) (Nat.zero_le _) (Nat.zero_le _)
theorem tX7_tight {G : aw_G} {d : Nat} {Ω : aw_O} {I : aw_MI} {J : aw_MJ} {Q : Int32 → aw_O → aw_MI → aw_MJ → Prop} {x : Int32} {n m t : Nat} (hM : aw_main Ω 0) (hn : I 1 0 = nI n) (hn3 : n ≤ 3) (hm : I 1 2 = nI m) (hm6 : m ≤ 6) (ht : I 1 1 = nI t) (hd : 6 ≤ d) (kB : sp_set x m = 0 → Q (-2) Ω I J) (kS : ¬ (sp_set x m = 0) → sp_hl (I 2) 1 n = 0 → Q (-3) Ω I J) (kN : ∀ S I' J', x = nI S → S < 2 ^ m → ¬ (sp_set x m = 0) → ¬ sp_hl (I 2) 1 n = 0 → sv_I 22 I I' → sv_J 22 J J' → cx_res I n m t S = -1 → Q (-1) Ω I' J') (hQ : ∀ S w I' J', x = nI S → S < 2 ^ m → ¬ (sp_set x m = 0) → ¬ sp_hl (I 2) 1 n = 0 → w < 2 ^ m → sv_I 22 I I' → sv_J 22 J J' → cx_gb I 1 n m (nI S) (nI t) w = true → cx_res I n m t S = nI w → Q (cx_ti I 1 n m (nI t) w) Ω I' J') : aw_Call G MX7_tight d 0 0 [.ref (aw_ad G 0), .int x] Ω I J (aw_QI Q) := by
  refine aw_enter (by decide +kernel) rfl (Nat.le_of_ble_eq_true rfl) ?_
  show AW G MX7_tight (aw_nx Ω) d 0 0 (aw_QI Q) Ω I J 0 0 [.ref (aw_ad G 0), .int x, .null] 0 []
  refine aw_aload_n dX7_tight_0 rfl ?_
  refine aw_aload_n dX7_tight_1 rfl ?_
  refine aw_iload_n dX7_tight_2 rfl ?_
  refine aw_cvI (As := [_]) (d' := d - 1) dX7_tight_3 lkX7_135 hM.o (by omega) rfl rfl (Nat.le_of_ble_eq_true rfl) ⟨Nat.le_refl _, Nat.le_refl _⟩ (tX7_isSet hM hm (by omega) ?_)
  refine aw_if_ne (t := 13) dX7_tight_6 (by decide) (fun h1 => ?_) (fun h1 => ?_)
  · skip
    have kh1 := h1
    obtain ⟨S, hS, rfl⟩ := sp_set1 hm6 h1
    refine aw_iconst (v := nI 0) dX7_tight_13 (by decide) ?_
    refine aw_iload_n dX7_tight_14 rfl ?_
    refine aw_cvI (As := [_, _]) (d' := d - 1) dX7_tight_15 lkX7_138 hM.o (by omega) rfl rfl (Nat.le_of_ble_eq_true rfl) ⟨Nat.le_refl _, Nat.le_refl _⟩ (tX7_find hM hn hn3 hm hm6 ht hS (by omega) ?_ ?_ ?_)
    · skip
      intro p0
      refine aw_istore_n dX7_tight_18 (by decide) ?_
      refine aw_lv (lv2 := [.ref _, .int _, .int _]) rfl ?_
      refine aw_iload_n dX7_tight_19 rfl ?_
      refine aw_if_ge (t := 27) dX7_tight_20 (by decide) (fun h2 => absurd h2 (by decide)) (fun h2 => ?_)
      refine aw_iload_n dX7_tight_23 rfl ?_
      refine aw_goto (t := 34) dX7_tight_24 (by decide) ?_
      exact aw_iret dX7_tight_34 rfl (kS (by assumption) p0) (Nat.zero_le _) (Nat.zero_le _)
    · skip
      intro I1 J1 p0 a1 b1 f1
      refine aw_istore_n dX7_tight_18 (by decide) ?_
      refine aw_lv (lv2 := [.ref _, .int _, .int _]) rfl ?_
      refine aw_iload_n dX7_tight_19 rfl ?_
      refine aw_if_ge (t := 27) dX7_tight_20 (by decide) (fun h3 => absurd h3 (by decide)) (fun h3 => ?_)
      refine aw_iload_n dX7_tight_23 rfl ?_
      refine aw_goto (t := 34) dX7_tight_24 (by decide) ?_
      exact aw_iret dX7_tight_34 rfl (kN S I1 J1 rfl hS (by assumption) p0 a1 b1 f1) (Nat.zero_le _) (Nat.zero_le _)
    · skip
      intro w I1 J1 p0 hw a1 b1 g1 t1 A1 f1
      have h64 : 2 ^ m ≤ 2 ^ 6 := Nat.pow_le_pow_right (by decide) hm6
      have hn1 : I1 1 0 = nI n := by rw [a1.1 1 (by decide)]; exact hn
      have hm1 : I1 1 2 = nI m := by rw [a1.1 1 (by decide)]; exact hm
      refine aw_istore_n dX7_tight_18 (by decide) ?_
      refine aw_lv (lv2 := [.ref _, .int _, .int _]) rfl ?_
      refine aw_iload_n dX7_tight_19 rfl ?_
      refine aw_if_ge (t := 27) dX7_tight_20 (by decide) (fun h4 => ?_) (fun h4 => ?_)
      · skip
        refine aw_aload_n dX7_tight_27 rfl ?_
        refine aw_getR dX7_tight_28 flX7_27 hM.o hM.p3 ?_
        refine aw_cvI (As := []) (d' := d - 1) dX7_tight_31 lkX7_187 hM.q3.o (by omega) rfl rfl (Nat.le_of_ble_eq_true rfl) ⟨Nat.le_refl _, Nat.le_refl _⟩ (tX6_tightLines hM.q3 hn1 hn3 hm1 hm6 (by omega) ?_)
        refine aw_toI (cx_tight (fun a ha => a1.1 a (Or.inl ha)) (by decide) t1 A1) ?_
        exact aw_iret dX7_tight_34 rfl (hQ S w I1 J1 rfl hS (by assumption) p0 (by omega) a1 b1 g1 f1) (Nat.zero_le _) (Nat.zero_le _)
      · skip
        exact absurd (nI_pos' (by omega)) h4
  · skip
    refine aw_iconst (v := nI 1) dX7_tight_9 (by decide) ?_
    refine aw_goto (t := 14) dX7_tight_10 (by decide) ?_
    refine aw_iload_n dX7_tight_14 rfl ?_
    refine aw_cvI (As := [_, _]) (d' := d - 1) dX7_tight_15 lkX7_138 hM.o (by omega) rfl rfl (Nat.le_of_ble_eq_true rfl) ⟨Nat.le_refl _, Nat.le_refl _⟩ (tX7_findB hM ?_)
    · skip
      refine aw_istore_n dX7_tight_18 (by decide) ?_
      refine aw_lv (lv2 := [.ref _, .int _, .int _]) rfl ?_
      refine aw_iload_n dX7_tight_19 rfl ?_
      refine aw_if_ge (t := 27) dX7_tight_20 (by decide) (fun h5 => absurd h5 (by decide)) (fun h5 => ?_)
      refine aw_iload_n dX7_tight_23 rfl ?_
      refine aw_goto (t := 34) dX7_tight_24 (by decide) ?_
      exact aw_iret dX7_tight_34 rfl (kB h1) (Nat.zero_le _) (Nat.zero_le _)

/-! THE CLASS's own methods: bowl, lines, book, sheets, image -/
theorem nI_rng {x : Int32} {a b : Nat} (h1 : ¬ x < nI a) (h2 : ¬ nI b < x) (ha : a < 2 ^ 31) (hb : b < 2 ^ 31) : ∃ j, x = nI j ∧ a ≤ j ∧ j ≤ b := by
  have h0 : ¬ x < 0 := fun q => h1 (by
    have e1 := Int32.lt_iff_toInt_lt.mp q
    apply Int32.lt_iff_toInt_lt.mpr
    rw [nI_toInt ha]
    have : (0 : Int32).toInt = 0 := by decide
    omega)
  obtain ⟨j, hj, rfl⟩ := nI_of h0
  refine ⟨j, rfl, ?_, ?_⟩
  · exact Nat.le_of_not_lt (fun q => h1 ((nI_ltI hj ha).mpr q))
  · exact Nat.le_of_not_lt (fun q => h2 ((nI_ltI hb hj).mpr q))
theorem sp_var_lt {x : Int32} {n : Nat} (h : x < 0) : sp_var x n = 0 := by
  unfold sp_var
  rw [if_pos h]
  decide
theorem sp_var_ge {x : Int32} {n : Nat} (h : ¬ x < nI n) : sp_var x n = 0 := by
  unfold sp_var
  by_cases h0 : x < 0
  · rw [if_pos h0]; decide
  · rw [if_neg h0, if_neg h]; decide
theorem sp_var_of {x : Int32} {n : Nat} (h0 : ¬ x < 0) (h : x < nI n) : ¬ sp_var x n = 0 := by
  unfold sp_var
  rw [if_neg h0, if_pos h]
  decide
theorem sp_hl01 (q : Nat → Int32) : ∀ (z k : Nat), sp_hl q k z = nI 0 ∨ sp_hl q k z = nI 1
  | 0, _ => Or.inr rfl
  | z + 1, k => by
    unfold sp_hl
    by_cases h : 0 < sp_minor q k
    · rw [if_pos h]
      exact sp_hl01 q z (k + 1)
    · rw [if_neg h]
      exact Or.inl rfl
theorem sp_chg2 {w v : Int32} (h : ¬ sp_chg w v = 0) (h0 : ¬ w = 0) (h1 : ¬ w = nI 1) : w = nI 2 := by
  by_cases h2 : w = nI 2
  · exact h2
  · refine absurd ?_ h
    unfold sp_chg
    have h0' : ¬ w = nI 0 := h0
    rw [if_neg h0', if_neg h1, if_neg h2]
    decide
def sp_lo (I : aw_MI) (n t l c : Nat) : Int32 := if c < 3 then I (4 + c) l else if c = 3 then sp_bnd (I 4 l) (I 5 l + nI t * I 6 l) else if c - 4 < n then sp_row (I 4 l) (I 7 (l * 3 + (c - 4))) else nI 0

theorem tX7_size {G : aw_G} {d : Nat} {Ω : aw_O} {I : aw_MI} {J : aw_MJ} {Q : Int32 → aw_O → aw_MI → aw_MJ → Prop} {n : Nat} {x : Int32} (hM : aw_main Ω 0) (hn : I 1 0 = nI n) (hd : 3 ≤ d) (kB : x < nI 1 ∨ nI 3 < x → Q (-2) Ω I J) (hQ : ∀ j, x = nI j → 1 ≤ j → j ≤ 3 → Q (nI n) Ω (aw_fill (aw_wr (aw_up (aw_up (aw_up I 1 0 (nI j)) 1 1 (nI 0)) 1 2 (nI 0)) 2 0 9 (sp_rd 3)) 3 3 (nI 0)) J) : aw_Call G MX7_size d 0 0 [.ref (aw_ad G 0), .int x] Ω I J (aw_QI Q) := by
  refine aw_enter (by decide +kernel) rfl (Nat.le_of_ble_eq_true rfl) ?_
  show AW G MX7_size (aw_nx Ω) d 0 0 (aw_QI Q) Ω I J 0 0 [.ref (aw_ad G 0), .int x, .null] 0 []
  refine aw_iload_n dX7_size_0 rfl ?_
  refine aw_iconst (v := nI 1) dX7_size_1 (by decide) ?_
  refine aw_icmp_lt (t := 10) dX7_size_2 (by decide) (fun h1 => ?_) (fun h1 => ?_)
  · skip
    refine aw_bipush (v := -2) dX7_size_10 (by decide) ?_
    try simp only [lcmpE, lcmpL, lcmpG, lcmpLE, lcmpGT, nrm_le, nrm_le64, Classical.not_not] at h1
    exact aw_iret dX7_size_12 rfl (kB (Or.inl h1)) (Nat.zero_le _) (Nat.zero_le _)
  · skip
    refine aw_iload_n dX7_size_5 rfl ?_
    refine aw_iconst (v := nI 3) dX7_size_6 (by decide) ?_
    refine aw_icmp_le (t := 13) dX7_size_7 (by decide) (fun h2 => ?_) (fun h2 => ?_)
    · skip
      refine aw_aload_n dX7_size_13 rfl ?_
      refine aw_getR dX7_size_14 flX7_10 hM.o hM.p0 ?_
      refine aw_getIv (v := nI n) dX7_size_17 flX7_59 hM.q0.o (by first | exact hn | (simp (disch := omega) only [aw_cp_off, aw_up_off, aw_wr_off, aw_fill_off, aw_fr_off]; exact hn)) ?_
      refine aw_istore_n dX7_size_20 (by decide) ?_
      refine aw_lv (lv2 := [.ref _, .int _, .int _]) rfl ?_
      refine aw_aload_n dX7_size_21 rfl ?_
      refine aw_pc (pc2 := 22) rfl ?_
      refine aw_getR dX7_size_22 flX7_10 hM.o hM.p0 ?_
      refine aw_iload_n dX7_size_25 rfl ?_
      refine aw_cvV (As := [_]) (d' := d - 1) dX7_size_26 lkX7_55 hM.q0.o (by omega) rfl rfl (Nat.le_of_ble_eq_true rfl) ⟨Nat.le_refl _, Nat.le_refl _⟩ (tX1_begin hM.q0 (by omega) ?_)
      refine aw_iload_n dX7_size_29 rfl ?_
      try simp only [lcmpE, lcmpL, lcmpG, lcmpLE, lcmpGT, nrm_le, nrm_le64, Classical.not_not] at h1
      try simp only [lcmpE, lcmpL, lcmpG, lcmpLE, lcmpGT, nrm_le, nrm_le64, Classical.not_not] at h2
      obtain ⟨j, rfl, j1, j3⟩ := nI_rng h1 h2 (by decide) (by decide)
      exact aw_iret dX7_size_30 rfl (hQ j rfl j1 j3) (Nat.zero_le _) (Nat.zero_le _)
    · skip
      refine aw_bipush (v := -2) dX7_size_10 (by decide) ?_
      try simp only [lcmpE, lcmpL, lcmpG, lcmpLE, lcmpGT, nrm_le, nrm_le64, Classical.not_not] at h1
      try simp only [lcmpE, lcmpL, lcmpG, lcmpLE, lcmpGT, nrm_le, nrm_le64, Classical.not_not] at h2
      exact aw_iret dX7_size_12 rfl (kB (Or.inr (h2))) (Nat.zero_le _) (Nat.zero_le _)
theorem tX7_bend {G : aw_G} {d : Nat} {Ω : aw_O} {I : aw_MI} {J : aw_MJ} {Q : Int32 → aw_O → aw_MI → aw_MJ → Prop} {n : Nat} {x y v : Int32} (hM : aw_main Ω 0) (hn : I 1 0 = nI n) (hn3 : n ≤ 3) (hd : 2 ≤ d) (kB : sp_var x n = 0 ∨ sp_var y n = 0 ∨ (∃ i j, x = nI i ∧ y = nI j ∧ i < n ∧ j < n ∧ sp_bend (if i = j then nI 1 else nI 0) v = 0) → Q (-2) Ω I J) (hQ : ∀ i j, x = nI i → y = nI j → i < n → j < n → ¬ sp_bend (if i = j then nI 1 else nI 0) v = 0 → Q (I 2 (i * 3 + j)) Ω (aw_up (aw_up I 2 (i * 3 + j) v) 2 (j * 3 + i) v) J) : aw_Call G MX7_bend d 0 0 [.ref (aw_ad G 0), .int x, .int y, .int v] Ω I J (aw_QI Q) := by
  refine aw_enter (by decide +kernel) rfl (Nat.le_of_ble_eq_true rfl) ?_
  show AW G MX7_bend (aw_nx Ω) d 0 0 (aw_QI Q) Ω I J 0 0 [.ref (aw_ad G 0), .int x, .int y, .int v, .null] 0 []
  refine aw_aload_n dX7_bend_0 rfl ?_
  refine aw_iload_n dX7_bend_1 rfl ?_
  refine aw_cvI (As := [_]) (d' := d - 1) dX7_bend_2 lkX7_63 hM.o (by omega) rfl rfl (Nat.le_of_ble_eq_true rfl) ⟨Nat.le_refl _, Nat.le_refl _⟩ (tX7_isVariable hM hn ?_)
  refine aw_if_eq (t := 33) dX7_bend_5 (by decide) (fun h1 => ?_) (fun h1 => ?_)
  · skip
    refine aw_bipush (v := -2) dX7_bend_33 (by decide) ?_
    exact aw_iret dX7_bend_35 rfl (kB (Or.inl h1)) (Nat.zero_le _) (Nat.zero_le _)
  · skip
    obtain ⟨i, hi, rfl⟩ := sp_var1 h1
    refine aw_aload_n dX7_bend_8 rfl ?_
    refine aw_iload_n dX7_bend_9 rfl ?_
    refine aw_cvI (As := [_]) (d' := d - 1) dX7_bend_10 lkX7_63 hM.o (by omega) rfl rfl (Nat.le_of_ble_eq_true rfl) ⟨Nat.le_refl _, Nat.le_refl _⟩ (tX7_isVariable hM hn ?_)
    refine aw_if_eq (t := 33) dX7_bend_13 (by decide) (fun h2 => ?_) (fun h2 => ?_)
    · skip
      refine aw_bipush (v := -2) dX7_bend_33 (by decide) ?_
      exact aw_iret dX7_bend_35 rfl (kB (Or.inr (Or.inl h2))) (Nat.zero_le _) (Nat.zero_le _)
    · skip
      obtain ⟨j, hj, rfl⟩ := sp_var1 h2
      refine aw_iload_n dX7_bend_16 rfl ?_
      refine aw_iload_n dX7_bend_17 rfl ?_
      refine aw_neN (t := 25) dX7_bend_18 (by decide) (by omega) (by omega) (fun h3 => ?_) (fun h3 => ?_)
      · skip
        refine aw_iconst (v := nI 0) dX7_bend_25 (by decide) ?_
        refine aw_iload_n dX7_bend_26 rfl ?_
        refine aw_csI (As := [_, _]) (d' := d - 1) dX7_bend_27 lkX7_67 (by omega) rfl rfl (Nat.le_of_ble_eq_true rfl) ⟨Nat.le_refl _, Nat.le_refl _⟩ (tX7_isBend (by omega) ?_)
        refine aw_if_ne (t := 36) dX7_bend_30 (by decide) (fun h4 => ?_) (fun h4 => ?_)
        · skip
          refine aw_aload_n dX7_bend_36 rfl ?_
          refine aw_getR dX7_bend_37 flX7_10 hM.o hM.p0 ?_
          refine aw_iload_n dX7_bend_40 rfl ?_
          refine aw_iload_n dX7_bend_41 rfl ?_
          refine aw_cvI (As := [_, _]) (d' := d - 1) dX7_bend_42 lkX7_71 hM.q0.o (by omega) rfl rfl (Nat.le_of_ble_eq_true rfl) ⟨Nat.le_refl _, Nat.le_refl _⟩ (tX1_bendOf hM.q0 (by omega) (by omega) ?_)
          refine aw_pc (pc2 := 45) rfl ?_
          refine aw_istore dX7_bend_45 (by decide) ?_
          refine aw_lv (lv2 := [.ref _, .int _, .int _, .int _, .int _]) rfl ?_
          refine aw_aload_n dX7_bend_47 rfl ?_
          refine aw_getR dX7_bend_48 flX7_10 hM.o hM.p0 ?_
          refine aw_iload_n dX7_bend_51 rfl ?_
          refine aw_iload_n dX7_bend_52 rfl ?_
          refine aw_iload_n dX7_bend_53 rfl ?_
          refine aw_pc (pc2 := 54) rfl ?_
          refine aw_cvV (As := [_, _, _]) (d' := d - 1) dX7_bend_54 lkX7_75 hM.q0.o (by omega) rfl rfl (Nat.le_of_ble_eq_true rfl) ⟨Nat.le_refl _, Nat.le_refl _⟩ (tX1_putBend hM.q0 (by omega) (by omega) ?_)
          refine aw_iload dX7_bend_57 rfl ?_
          exact aw_iret dX7_bend_59 rfl (hQ i j rfl rfl hi hj (by first | (rw [if_pos h3]; exact h4) | (rw [if_neg h3]; exact h4))) (Nat.zero_le _) (Nat.zero_le _)
        · skip
          refine aw_bipush (v := -2) dX7_bend_33 (by decide) ?_
          exact aw_iret dX7_bend_35 rfl (kB (Or.inr (Or.inr ⟨i, j, rfl, rfl, hi, hj, by first | (rw [if_pos h3]; exact h4) | (rw [if_neg h3]; exact h4)⟩))) (Nat.zero_le _) (Nat.zero_le _)
      · skip
        refine aw_iconst (v := nI 1) dX7_bend_21 (by decide) ?_
        refine aw_goto (t := 26) dX7_bend_22 (by decide) ?_
        refine aw_iload_n dX7_bend_26 rfl ?_
        refine aw_csI (As := [_, _]) (d' := d - 1) dX7_bend_27 lkX7_67 (by omega) rfl rfl (Nat.le_of_ble_eq_true rfl) ⟨Nat.le_refl _, Nat.le_refl _⟩ (tX7_isBend (by omega) ?_)
        refine aw_if_ne (t := 36) dX7_bend_30 (by decide) (fun h5 => ?_) (fun h5 => ?_)
        · skip
          refine aw_aload_n dX7_bend_36 rfl ?_
          refine aw_getR dX7_bend_37 flX7_10 hM.o hM.p0 ?_
          refine aw_iload_n dX7_bend_40 rfl ?_
          refine aw_iload_n dX7_bend_41 rfl ?_
          refine aw_cvI (As := [_, _]) (d' := d - 1) dX7_bend_42 lkX7_71 hM.q0.o (by omega) rfl rfl (Nat.le_of_ble_eq_true rfl) ⟨Nat.le_refl _, Nat.le_refl _⟩ (tX1_bendOf hM.q0 (by omega) (by omega) ?_)
          refine aw_pc (pc2 := 45) rfl ?_
          refine aw_istore dX7_bend_45 (by decide) ?_
          refine aw_lv (lv2 := [.ref _, .int _, .int _, .int _, .int _]) rfl ?_
          refine aw_aload_n dX7_bend_47 rfl ?_
          refine aw_getR dX7_bend_48 flX7_10 hM.o hM.p0 ?_
          refine aw_iload_n dX7_bend_51 rfl ?_
          refine aw_iload_n dX7_bend_52 rfl ?_
          refine aw_iload_n dX7_bend_53 rfl ?_
          refine aw_pc (pc2 := 54) rfl ?_
          refine aw_cvV (As := [_, _, _]) (d' := d - 1) dX7_bend_54 lkX7_75 hM.q0.o (by omega) rfl rfl (Nat.le_of_ble_eq_true rfl) ⟨Nat.le_refl _, Nat.le_refl _⟩ (tX1_putBend hM.q0 (by omega) (by omega) ?_)
          refine aw_iload dX7_bend_57 rfl ?_
          exact aw_iret dX7_bend_59 rfl (hQ i j rfl rfl hi hj (by first | (rw [if_pos h3]; exact h5) | (rw [if_neg h3]; exact h5))) (Nat.zero_le _) (Nat.zero_le _)
        · skip
          refine aw_bipush (v := -2) dX7_bend_33 (by decide) ?_
          exact aw_iret dX7_bend_35 rfl (kB (Or.inr (Or.inr ⟨i, j, rfl, rfl, hi, hj, by first | (rw [if_pos h3]; exact h5) | (rw [if_neg h3]; exact h5)⟩))) (Nat.zero_le _) (Nat.zero_le _)
theorem tX7_push {G : aw_G} {d : Nat} {Ω : aw_O} {I : aw_MI} {J : aw_MJ} {Q : Int32 → aw_O → aw_MI → aw_MJ → Prop} {n : Nat} {x v : Int32} (hM : aw_main Ω 0) (hn : I 1 0 = nI n) (hn3 : n ≤ 3) (hd : 1 ≤ d) (kB : sp_var x n = 0 ∨ sp_wi v (nI 99) = 0 → Q (-2) Ω I J) (hQ : ∀ i, x = nI i → i < n → ¬ sp_wi v (nI 99) = 0 → Q (I 3 i) Ω (aw_up I 3 i v) J) : aw_Call G MX7_push d 0 0 [.ref (aw_ad G 0), .int x, .int v] Ω I J (aw_QI Q) := by
  refine aw_enter (by decide +kernel) rfl (Nat.le_of_ble_eq_true rfl) ?_
  show AW G MX7_push (aw_nx Ω) d 0 0 (aw_QI Q) Ω I J 0 0 [.ref (aw_ad G 0), .int x, .int v, .null] 0 []
  refine aw_aload_n dX7_push_0 rfl ?_
  refine aw_iload_n dX7_push_1 rfl ?_
  refine aw_cvI (As := [_]) (d' := d - 1) dX7_push_2 lkX7_63 hM.o (by omega) rfl rfl (Nat.le_of_ble_eq_true rfl) ⟨Nat.le_refl _, Nat.le_refl _⟩ (tX7_isVariable hM hn ?_)
  refine aw_if_eq (t := 17) dX7_push_5 (by decide) (fun h1 => ?_) (fun h1 => ?_)
  · skip
    refine aw_bipush (v := -2) dX7_push_17 (by decide) ?_
    exact aw_iret dX7_push_19 rfl (kB (Or.inl h1)) (Nat.zero_le _) (Nat.zero_le _)
  · skip
    obtain ⟨i, hi, rfl⟩ := sp_var1 h1
    refine aw_iload_n dX7_push_8 rfl ?_
    refine aw_bipush (v := nI 99) dX7_push_9 (by decide) ?_
    refine aw_csI (As := [_, _]) (d' := d - 1) dX7_push_11 lkX7_79 (by omega) rfl rfl (Nat.le_of_ble_eq_true rfl) ⟨Nat.le_refl _, Nat.le_refl _⟩ (tX7_isWithin ?_)
    refine aw_if_ne (t := 20) dX7_push_14 (by decide) (fun h2 => ?_) (fun h2 => ?_)
    · skip
      refine aw_aload_n dX7_push_20 rfl ?_
      refine aw_getR dX7_push_21 flX7_10 hM.o hM.p0 ?_
      refine aw_getR dX7_push_24 flX7_83 hM.q0.o hM.q0.p4 ?_
      refine aw_iload_n dX7_push_27 rfl ?_
      refine aw_iald dX7_push_28 hM.q0.s4 rfl (by omega) ?_
      refine aw_pc (pc2 := 29) rfl ?_
      refine aw_istore_n dX7_push_29 (by decide) ?_
      refine aw_lv (lv2 := [.ref _, .int _, .int _, .int _]) rfl ?_
      refine aw_aload_n dX7_push_30 rfl ?_
      refine aw_getR dX7_push_31 flX7_10 hM.o hM.p0 ?_
      refine aw_getR dX7_push_34 flX7_83 hM.q0.o hM.q0.p4 ?_
      refine aw_iload_n dX7_push_37 rfl ?_
      refine aw_iload_n dX7_push_38 rfl ?_
      refine aw_pc (pc2 := 39) rfl ?_
      refine aw_iast dX7_push_39 hM.q0.s4 rfl (by omega) rfl ?_
      refine aw_iload_n dX7_push_40 rfl ?_
      exact aw_iret dX7_push_41 rfl (hQ i rfl hi h2) (Nat.zero_le _) (Nat.zero_le _)
    · skip
      refine aw_bipush (v := -2) dX7_push_17 (by decide) ?_
      exact aw_iret dX7_push_19 rfl (kB (Or.inr (h2))) (Nat.zero_le _) (Nat.zero_le _)
theorem tX7_tide {G : aw_G} {d : Nat} {Ω : aw_O} {I : aw_MI} {J : aw_MJ} {Q : Int32 → aw_O → aw_MI → aw_MJ → Prop} {t : Nat} {x : Int32} (hM : aw_main Ω 0) (ht : I 1 1 = nI t) (kB : x < 0 ∨ nI 40 < x → Q (-2) Ω I J) (hQ : ∀ j, x = nI j → j ≤ 40 → Q (nI t) Ω (aw_up I 1 1 (nI j)) J) : aw_Call G MX7_tide d 0 0 [.ref (aw_ad G 0), .int x] Ω I J (aw_QI Q) := by
  refine aw_enter (by decide +kernel) rfl (Nat.le_of_ble_eq_true rfl) ?_
  show AW G MX7_tide (aw_nx Ω) d 0 0 (aw_QI Q) Ω I J 0 0 [.ref (aw_ad G 0), .int x, .null] 0 []
  refine aw_iload_n dX7_tide_0 rfl ?_
  refine aw_if_lt (t := 10) dX7_tide_1 (by decide) (fun h1 => ?_) (fun h1 => ?_)
  · skip
    refine aw_bipush (v := -2) dX7_tide_10 (by decide) ?_
    try simp only [lcmpE, lcmpL, lcmpG, lcmpLE, lcmpGT, nrm_le, nrm_le64, Classical.not_not] at h1
    exact aw_iret dX7_tide_12 rfl (kB (Or.inl h1)) (Nat.zero_le _) (Nat.zero_le _)
  · skip
    refine aw_iload_n dX7_tide_4 rfl ?_
    refine aw_bipush (v := nI 40) dX7_tide_5 (by decide) ?_
    refine aw_icmp_le (t := 13) dX7_tide_7 (by decide) (fun h2 => ?_) (fun h2 => ?_)
    · skip
      refine aw_aload_n dX7_tide_13 rfl ?_
      refine aw_getR dX7_tide_14 flX7_10 hM.o hM.p0 ?_
      refine aw_getIv (v := nI t) dX7_tide_17 flX7_87 hM.q0.o (by first | exact ht | (simp (disch := omega) only [aw_cp_off, aw_up_off, aw_wr_off, aw_fill_off, aw_fr_off]; exact ht)) ?_
      refine aw_istore_n dX7_tide_20 (by decide) ?_
      refine aw_lv (lv2 := [.ref _, .int _, .int _]) rfl ?_
      refine aw_aload_n dX7_tide_21 rfl ?_
      refine aw_pc (pc2 := 22) rfl ?_
      refine aw_getR dX7_tide_22 flX7_10 hM.o hM.p0 ?_
      refine aw_iload_n dX7_tide_25 rfl ?_
      refine aw_putI dX7_tide_26 fwX7_87 hM.q0.o rfl ?_
      refine aw_iload_n dX7_tide_29 rfl ?_
      try simp only [lcmpE, lcmpL, lcmpG, lcmpLE, lcmpGT, nrm_le, nrm_le64, Classical.not_not] at h1
      try simp only [lcmpE, lcmpL, lcmpG, lcmpLE, lcmpGT, nrm_le, nrm_le64, Classical.not_not] at h2
      obtain ⟨j, rfl, j1, j3⟩ := nI_rng (a := 0) h1 h2 (by decide) (by decide)
      exact aw_iret dX7_tide_30 rfl (hQ j rfl j3) (Nat.zero_le _) (Nat.zero_le _)
    · skip
      refine aw_bipush (v := -2) dX7_tide_10 (by decide) ?_
      try simp only [lcmpE, lcmpL, lcmpG, lcmpLE, lcmpGT, nrm_le, nrm_le64, Classical.not_not] at h1
      try simp only [lcmpE, lcmpL, lcmpG, lcmpLE, lcmpGT, nrm_le, nrm_le64, Classical.not_not] at h2
      exact aw_iret dX7_tide_12 rfl (kB (Or.inr (h2))) (Nat.zero_le _) (Nat.zero_le _)
theorem tX7_line {G : aw_G} {d : Nat} {Ω : aw_O} {I : aw_MI} {J : aw_MJ} {Q : Int32 → aw_O → aw_MI → aw_MJ → Prop} {m : Nat} {x y v : Int32} (hM : aw_main Ω 0) (hm : I 1 2 = nI m) (hm6 : m ≤ 6) (hd : 1 ≤ d) (kB : sp_kind x = 0 ∨ sp_wi y (nI 99) = 0 ∨ sp_wi v (nI 9) = 0 → Q (-2) Ω I J) (kF : ¬ sp_kind x = 0 → ¬ sp_wi y (nI 99) = 0 → ¬ sp_wi v (nI 9) = 0 → m = 6 → Q (-4) Ω I J) (hQ : ¬ sp_kind x = 0 → ¬ sp_wi y (nI 99) = 0 → ¬ sp_wi v (nI 9) = 0 → m < 6 → Q (nI m) Ω (aw_up (aw_wr (aw_up (aw_up (aw_up I 4 m x) 5 m y) 6 m v) 7 (m * 3) 3 (fun _ => nI 0)) 1 2 (nI (m + 1))) J) : aw_Call G MX7_line d 0 0 [.ref (aw_ad G 0), .int x, .int y, .int v] Ω I J (aw_QI Q) := by
  refine aw_enter (by decide +kernel) rfl (Nat.le_of_ble_eq_true rfl) ?_
  show AW G MX7_line (aw_nx Ω) d 0 0 (aw_QI Q) Ω I J 0 0 [.ref (aw_ad G 0), .int x, .int y, .int v] 0 []
  refine aw_iload_n dX7_line_0 rfl ?_
  refine aw_csI (As := [_]) (d' := d - 1) dX7_line_1 lkX7_90 (by omega) rfl rfl (Nat.le_of_ble_eq_true rfl) ⟨Nat.le_refl _, Nat.le_refl _⟩ (tX7_isKind ?_)
  refine aw_if_eq (t := 25) dX7_line_4 (by decide) (fun h1 => ?_) (fun h1 => ?_)
  · skip
    refine aw_bipush (v := -2) dX7_line_25 (by decide) ?_
    exact aw_iret dX7_line_27 rfl (kB (Or.inl h1)) (Nat.zero_le _) (Nat.zero_le _)
  · skip
    refine aw_iload_n dX7_line_7 rfl ?_
    refine aw_bipush (v := nI 99) dX7_line_8 (by decide) ?_
    refine aw_csI (As := [_, _]) (d' := d - 1) dX7_line_10 lkX7_79 (by omega) rfl rfl (Nat.le_of_ble_eq_true rfl) ⟨Nat.le_refl _, Nat.le_refl _⟩ (tX7_isWithin ?_)
    refine aw_if_eq (t := 25) dX7_line_13 (by decide) (fun h2 => ?_) (fun h2 => ?_)
    · skip
      refine aw_bipush (v := -2) dX7_line_25 (by decide) ?_
      exact aw_iret dX7_line_27 rfl (kB (Or.inr (Or.inl h2))) (Nat.zero_le _) (Nat.zero_le _)
    · skip
      refine aw_iload_n dX7_line_16 rfl ?_
      refine aw_bipush (v := nI 9) dX7_line_17 (by decide) ?_
      refine aw_csI (As := [_, _]) (d' := d - 1) dX7_line_19 lkX7_79 (by omega) rfl rfl (Nat.le_of_ble_eq_true rfl) ⟨Nat.le_refl _, Nat.le_refl _⟩ (tX7_isWithin ?_)
      refine aw_if_ne (t := 28) dX7_line_22 (by decide) (fun h3 => ?_) (fun h3 => ?_)
      · skip
        refine aw_aload_n dX7_line_28 rfl ?_
        refine aw_getR dX7_line_29 flX7_10 hM.o hM.p0 ?_
        refine aw_getIv (v := nI m) dX7_line_32 flX7_93 hM.q0.o (by first | exact hm | (simp (disch := omega) only [aw_cp_off, aw_up_off, aw_wr_off, aw_fill_off, aw_fr_off]; exact hm)) ?_
        refine aw_bipush (v := nI 6) dX7_line_35 (by decide) ?_
        refine aw_ltN (t := 43) dX7_line_37 (by decide) (by omega) (by omega) (fun h4 => ?_) (fun h4 => ?_)
        · skip
          refine aw_aload_n dX7_line_43 rfl ?_
          refine aw_getR dX7_line_44 flX7_10 hM.o hM.p0 ?_
          refine aw_iload_n dX7_line_47 rfl ?_
          refine aw_iload_n dX7_line_48 rfl ?_
          refine aw_iload_n dX7_line_49 rfl ?_
          refine aw_pc (pc2 := 50) rfl ?_
          refine aw_cvI (As := [_, _, _]) (d' := d - 1) dX7_line_50 lkX7_96 hM.q0.o (by omega) rfl rfl (Nat.le_of_ble_eq_true rfl) ⟨Nat.le_refl _, Nat.le_refl _⟩ (tX1_addLine hM.q0 hm (by omega) ?_)
          exact aw_iret dX7_line_53 rfl (hQ h1 h2 h3 (by omega)) (Nat.zero_le _) (Nat.zero_le _)
        · skip
          refine aw_bipush (v := -4) dX7_line_40 (by decide) ?_
          exact aw_iret dX7_line_42 rfl (kF h1 h2 h3 (by omega)) (Nat.zero_le _) (Nat.zero_le _)
      · skip
        refine aw_bipush (v := -2) dX7_line_25 (by decide) ?_
        exact aw_iret dX7_line_27 rfl (kB (Or.inr (Or.inr (h3)))) (Nat.zero_le _) (Nat.zero_le _)
theorem tX7_slope {G : aw_G} {d : Nat} {Ω : aw_O} {I : aw_MI} {J : aw_MJ} {Q : Int32 → aw_O → aw_MI → aw_MJ → Prop} {m : Nat} {x y v : Int32} (hM : aw_main Ω 0) (hm : I 1 2 = nI m) (hm6 : m ≤ 6) (hd : 1 ≤ d) (kB : sp_var x m = 0 ∨ sp_var y 3 = 0 ∨ sp_wi v (nI 9) = 0 → Q (-2) Ω I J) (hQ : ∀ l i, x = nI l → y = nI i → l < m → i < 3 → ¬ sp_wi v (nI 9) = 0 → Q (I 7 (l * 3 + i)) Ω (aw_up I 7 (l * 3 + i) v) J) : aw_Call G MX7_slope d 0 0 [.ref (aw_ad G 0), .int x, .int y, .int v] Ω I J (aw_QI Q) := by
  refine aw_enter (by decide +kernel) rfl (Nat.le_of_ble_eq_true rfl) ?_
  show AW G MX7_slope (aw_nx Ω) d 0 0 (aw_QI Q) Ω I J 0 0 [.ref (aw_ad G 0), .int x, .int y, .int v, .null] 0 []
  refine aw_aload_n dX7_slope_0 rfl ?_
  refine aw_iload_n dX7_slope_1 rfl ?_
  refine aw_cvI (As := [_]) (d' := d - 1) dX7_slope_2 lkX7_100 hM.o (by omega) rfl rfl (Nat.le_of_ble_eq_true rfl) ⟨Nat.le_refl _, Nat.le_refl _⟩ (tX7_isLine hM hm ?_)
  refine aw_if_eq (t := 26) dX7_slope_5 (by decide) (fun h1 => ?_) (fun h1 => ?_)
  · skip
    refine aw_bipush (v := -2) dX7_slope_26 (by decide) ?_
    exact aw_iret dX7_slope_28 rfl (kB (Or.inl h1)) (Nat.zero_le _) (Nat.zero_le _)
  · skip
    obtain ⟨l, hl, rfl⟩ := sp_var1 h1
    refine aw_iload_n dX7_slope_8 rfl ?_
    refine aw_if_lt (t := 26) dX7_slope_9 (by decide) (fun h2 => ?_) (fun h2 => ?_)
    · skip
      refine aw_bipush (v := -2) dX7_slope_26 (by decide) ?_
      try simp only [lcmpE, lcmpL, lcmpG, lcmpLE, lcmpGT, nrm_le, nrm_le64, Classical.not_not] at h1
      try simp only [lcmpE, lcmpL, lcmpG, lcmpLE, lcmpGT, nrm_le, nrm_le64, Classical.not_not] at h2
      exact aw_iret dX7_slope_28 rfl (kB (Or.inr (Or.inl (sp_var_lt h2)))) (Nat.zero_le _) (Nat.zero_le _)
    · skip
      refine aw_iload_n dX7_slope_12 rfl ?_
      refine aw_iconst (v := nI 3) dX7_slope_13 (by decide) ?_
      refine aw_icmp_ge (t := 26) dX7_slope_14 (by decide) (fun h3 => ?_) (fun h3 => ?_)
      · skip
        refine aw_bipush (v := -2) dX7_slope_26 (by decide) ?_
        try simp only [lcmpE, lcmpL, lcmpG, lcmpLE, lcmpGT, nrm_le, nrm_le64, Classical.not_not] at h1
        try simp only [lcmpE, lcmpL, lcmpG, lcmpLE, lcmpGT, nrm_le, nrm_le64, Classical.not_not] at h2
        try simp only [lcmpE, lcmpL, lcmpG, lcmpLE, lcmpGT, nrm_le, nrm_le64, Classical.not_not] at h3
        exact aw_iret dX7_slope_28 rfl (kB (Or.inr (Or.inl (sp_var_ge h3)))) (Nat.zero_le _) (Nat.zero_le _)
      · skip
        try simp only [lcmpE, lcmpL, lcmpG, lcmpLE, lcmpGT, nrm_le, nrm_le64, Classical.not_not] at h2
        try simp only [lcmpE, lcmpL, lcmpG, lcmpLE, lcmpGT, nrm_le, nrm_le64, Classical.not_not] at h3
        obtain ⟨i, hi, rfl⟩ := sp_var1 (sp_var_of h2 h3)
        refine aw_iload_n dX7_slope_17 rfl ?_
        refine aw_bipush (v := nI 9) dX7_slope_18 (by decide) ?_
        refine aw_csI (As := [_, _]) (d' := d - 1) dX7_slope_20 lkX7_79 (by omega) rfl rfl (Nat.le_of_ble_eq_true rfl) ⟨Nat.le_refl _, Nat.le_refl _⟩ (tX7_isWithin ?_)
        refine aw_if_ne (t := 29) dX7_slope_23 (by decide) (fun h4 => ?_) (fun h4 => ?_)
        · skip
          refine aw_aload_n dX7_slope_29 rfl ?_
          refine aw_getR dX7_slope_30 flX7_10 hM.o hM.p0 ?_
          refine aw_getR dX7_slope_33 flX7_103 hM.q0.o hM.q0.p8 ?_
          refine aw_iload_n dX7_slope_36 rfl ?_
          refine aw_iconst (v := nI 3) dX7_slope_37 (by decide) ?_
          refine aw_pc (pc2 := 38) rfl ?_
          refine aw_imulN dX7_slope_38 ?_
          refine aw_iload_n dX7_slope_39 rfl ?_
          refine aw_iaddN dX7_slope_40 ?_
          refine aw_iald dX7_slope_41 hM.q0.s8 rfl (by omega) ?_
          refine aw_istore dX7_slope_42 (by decide) ?_
          refine aw_lv (lv2 := [.ref _, .int _, .int _, .int _, .int _]) rfl ?_
          refine aw_aload_n dX7_slope_44 rfl ?_
          refine aw_pc (pc2 := 45) rfl ?_
          refine aw_getR dX7_slope_45 flX7_10 hM.o hM.p0 ?_
          refine aw_getR dX7_slope_48 flX7_103 hM.q0.o hM.q0.p8 ?_
          refine aw_iload_n dX7_slope_51 rfl ?_
          refine aw_iconst (v := nI 3) dX7_slope_52 (by decide) ?_
          refine aw_imulN dX7_slope_53 ?_
          refine aw_iload_n dX7_slope_54 rfl ?_
          refine aw_pc (pc2 := 55) rfl ?_
          refine aw_iaddN dX7_slope_55 ?_
          refine aw_iload_n dX7_slope_56 rfl ?_
          refine aw_iast dX7_slope_57 hM.q0.s8 rfl (by omega) rfl ?_
          refine aw_iload dX7_slope_58 rfl ?_
          exact aw_iret dX7_slope_60 rfl (hQ l i rfl rfl hl hi h4) (Nat.zero_le _) (Nat.zero_le _)
        · skip
          refine aw_bipush (v := -2) dX7_slope_26 (by decide) ?_
          exact aw_iret dX7_slope_28 rfl (kB (Or.inr (Or.inr h4))) (Nat.zero_le _) (Nat.zero_le _)
theorem tX7_change {G : aw_G} {d : Nat} {Ω : aw_O} {I : aw_MI} {J : aw_MJ} {Q : Int32 → aw_O → aw_MI → aw_MJ → Prop} {m : Nat} {x y v : Int32} (hM : aw_main Ω 0) (hm : I 1 2 = nI m) (hm6 : m ≤ 6) (hd : 2 ≤ d) (kB : sp_var x m = 0 ∨ sp_chg y v = 0 → Q (-2) Ω I J) (hQ : ∀ l c, x = nI l → l < m → ¬ sp_chg y v = 0 → y = nI c → c < 3 → Q (I (4 + c) l) Ω (aw_up I (4 + c) l v) J) : aw_Call G MX7_change d 0 0 [.ref (aw_ad G 0), .int x, .int y, .int v] Ω I J (aw_QI Q) := by
  refine aw_enter (by decide +kernel) rfl (Nat.le_of_ble_eq_true rfl) ?_
  show AW G MX7_change (aw_nx Ω) d 0 0 (aw_QI Q) Ω I J 0 0 [.ref (aw_ad G 0), .int x, .int y, .int v, .null, .null] 0 []
  refine aw_aload_n dX7_change_0 rfl ?_
  refine aw_iload_n dX7_change_1 rfl ?_
  refine aw_cvI (As := [_]) (d' := d - 1) dX7_change_2 lkX7_100 hM.o (by omega) rfl rfl (Nat.le_of_ble_eq_true rfl) ⟨Nat.le_refl _, Nat.le_refl _⟩ (tX7_isLine hM hm ?_)
  refine aw_if_eq (t := 16) dX7_change_5 (by decide) (fun h1 => ?_) (fun h1 => ?_)
  · skip
    refine aw_bipush (v := -2) dX7_change_16 (by decide) ?_
    exact aw_iret dX7_change_18 rfl (kB (Or.inl h1)) (Nat.zero_le _) (Nat.zero_le _)
  · skip
    obtain ⟨l, hl, rfl⟩ := sp_var1 h1
    refine aw_iload_n dX7_change_8 rfl ?_
    refine aw_iload_n dX7_change_9 rfl ?_
    refine aw_csI (As := [_, _]) (d' := d - 1) dX7_change_10 lkX7_106 (by omega) rfl rfl (Nat.le_of_ble_eq_true rfl) ⟨Nat.le_refl _, Nat.le_refl _⟩ (tX7_isChange (by omega) ?_)
    refine aw_if_ne (t := 19) dX7_change_13 (by decide) (fun h2 => ?_) (fun h2 => ?_)
    · skip
      refine aw_iload_n dX7_change_19 rfl ?_
      refine aw_if_ne (t := 33) dX7_change_20 (by decide) (fun h3 => ?_) (fun h3 => ?_)
      · skip
        refine aw_iload_n dX7_change_33 rfl ?_
        refine aw_iconst (v := nI 1) dX7_change_34 (by decide) ?_
        refine aw_icmp_ne (t := 48) dX7_change_35 (by decide) (fun h4 => ?_) (fun h4 => ?_)
        · skip
          refine aw_aload_n dX7_change_48 rfl ?_
          refine aw_getR dX7_change_49 flX7_10 hM.o hM.p0 ?_
          refine aw_getR dX7_change_52 flX7_115 hM.q0.o hM.q0.p7 ?_
          refine aw_astore dX7_change_55 (by decide) ?_
          refine aw_lv (lv2 := [.ref _, .int _, .int _, .int _, .ref _, .null]) rfl ?_
          refine aw_aload dX7_change_57 rfl ?_
          refine aw_pc (pc2 := 59) rfl ?_
          refine aw_iload_n dX7_change_59 rfl ?_
          refine aw_iald dX7_change_60 hM.q0.s7 rfl (by omega) ?_
          refine aw_istore dX7_change_61 (by decide) ?_
          refine aw_lv (lv2 := [.ref _, .int _, .int _, .int _, .ref _, .int _]) rfl ?_
          refine aw_aload dX7_change_63 rfl ?_
          refine aw_iload_n dX7_change_65 rfl ?_
          refine aw_iload_n dX7_change_66 rfl ?_
          refine aw_pc (pc2 := 67) rfl ?_
          refine aw_iast dX7_change_67 hM.q0.s7 rfl (by omega) rfl ?_
          refine aw_iload dX7_change_68 rfl ?_
          exact aw_iret dX7_change_70 rfl (hQ l 2 rfl hl h2 (sp_chg2 h2 h3 h4) (by decide)) (Nat.zero_le _) (Nat.zero_le _)
        · skip
          refine aw_aload_n dX7_change_38 rfl ?_
          refine aw_getR dX7_change_39 flX7_10 hM.o hM.p0 ?_
          refine aw_getR dX7_change_42 flX7_112 hM.q0.o hM.q0.p6 ?_
          refine aw_goto (t := 55) dX7_change_45 (by decide) ?_
          refine aw_astore dX7_change_55 (by decide) ?_
          refine aw_lv (lv2 := [.ref _, .int _, .int _, .int _, .ref _, .null]) rfl ?_
          refine aw_aload dX7_change_57 rfl ?_
          refine aw_iload_n dX7_change_59 rfl ?_
          refine aw_iald dX7_change_60 hM.q0.s6 rfl (by omega) ?_
          refine aw_istore dX7_change_61 (by decide) ?_
          refine aw_lv (lv2 := [.ref _, .int _, .int _, .int _, .ref _, .int _]) rfl ?_
          refine aw_pc (pc2 := 63) rfl ?_
          refine aw_aload dX7_change_63 rfl ?_
          refine aw_iload_n dX7_change_65 rfl ?_
          refine aw_iload_n dX7_change_66 rfl ?_
          refine aw_iast dX7_change_67 hM.q0.s6 rfl (by omega) rfl ?_
          refine aw_iload dX7_change_68 rfl ?_
          exact aw_iret dX7_change_70 rfl (hQ l 1 rfl hl h2 h4 (by decide)) (Nat.zero_le _) (Nat.zero_le _)
      · skip
        refine aw_aload_n dX7_change_23 rfl ?_
        refine aw_getR dX7_change_24 flX7_10 hM.o hM.p0 ?_
        refine aw_getR dX7_change_27 flX7_109 hM.q0.o hM.q0.p5 ?_
        refine aw_goto (t := 55) dX7_change_30 (by decide) ?_
        refine aw_astore dX7_change_55 (by decide) ?_
        refine aw_lv (lv2 := [.ref _, .int _, .int _, .int _, .ref _, .null]) rfl ?_
        refine aw_aload dX7_change_57 rfl ?_
        refine aw_iload_n dX7_change_59 rfl ?_
        refine aw_iald dX7_change_60 hM.q0.s5 rfl (by omega) ?_
        refine aw_istore dX7_change_61 (by decide) ?_
        refine aw_lv (lv2 := [.ref _, .int _, .int _, .int _, .ref _, .int _]) rfl ?_
        refine aw_pc (pc2 := 63) rfl ?_
        refine aw_aload dX7_change_63 rfl ?_
        refine aw_iload_n dX7_change_65 rfl ?_
        refine aw_iload_n dX7_change_66 rfl ?_
        refine aw_iast dX7_change_67 hM.q0.s5 rfl (by omega) rfl ?_
        refine aw_iload dX7_change_68 rfl ?_
        exact aw_iret dX7_change_70 rfl (hQ l 0 rfl hl h2 h3 (by decide)) (Nat.zero_le _) (Nat.zero_le _)
    · skip
      refine aw_bipush (v := -2) dX7_change_16 (by decide) ?_
      exact aw_iret dX7_change_18 rfl (kB (Or.inr (h2))) (Nat.zero_le _) (Nat.zero_le _)
theorem tX7_drop {G : aw_G} {d : Nat} {Ω : aw_O} {I : aw_MI} {J : aw_MJ} {Q : Int32 → aw_O → aw_MI → aw_MJ → Prop} {m : Nat} {x : Int32} (hM : aw_main Ω 0) (hm : I 1 2 = nI m) (hm6 : m ≤ 6) (hd : 3 ≤ d) (kB : sp_var x m = 0 → Q (-2) Ω I J) (hQ : ∀ l, x = nI l → l < m → Q (nI (m - 1)) Ω (aw_up (aw_cp (aw_cp (aw_cp (aw_cp I (4) (4) (l + 1) (l) (m - l - 1)) (5) (5) (l + 1) (l) (m - l - 1)) (6) (6) (l + 1) (l) (m - l - 1)) (7) (7) ((l + 1) * 3) (l * 3) ((m - l - 1) * 3)) 1 2 (nI (m - 1))) J) : aw_Call G MX7_drop d 0 0 [.ref (aw_ad G 0), .int x] Ω I J (aw_QI Q) := by
  refine aw_enter (by decide +kernel) rfl (Nat.le_of_ble_eq_true rfl) ?_
  show AW G MX7_drop (aw_nx Ω) d 0 0 (aw_QI Q) Ω I J 0 0 [.ref (aw_ad G 0), .int x] 0 []
  refine aw_aload_n dX7_drop_0 rfl ?_
  refine aw_iload_n dX7_drop_1 rfl ?_
  refine aw_cvI (As := [_]) (d' := d - 1) dX7_drop_2 lkX7_100 hM.o (by omega) rfl rfl (Nat.le_of_ble_eq_true rfl) ⟨Nat.le_refl _, Nat.le_refl _⟩ (tX7_isLine hM hm ?_)
  refine aw_if_ne (t := 11) dX7_drop_5 (by decide) (fun h1 => ?_) (fun h1 => ?_)
  · skip
    obtain ⟨l, hl, rfl⟩ := sp_var1 h1
    refine aw_aload_n dX7_drop_11 rfl ?_
    refine aw_getR dX7_drop_12 flX7_10 hM.o hM.p0 ?_
    refine aw_iload_n dX7_drop_15 rfl ?_
    refine aw_cvV (As := [_]) (d' := d - 1) dX7_drop_16 lkX7_118 hM.q0.o (by omega) rfl rfl (Nat.le_of_ble_eq_true rfl) ⟨Nat.le_refl _, Nat.le_refl _⟩ (tX1_removeLine hM.q0 hm hm6 (by omega) (by omega) ?_)
    refine aw_aload_n dX7_drop_19 rfl ?_
    refine aw_pc (pc2 := 20) rfl ?_
    refine aw_getR dX7_drop_20 flX7_10 hM.o hM.p0 ?_
    refine aw_getIv (v := nI (m - 1)) dX7_drop_23 flX7_93 hM.q0.o (aw_up_self _ _ _ _) ?_
    exact aw_iret dX7_drop_26 rfl (hQ l rfl hl) (Nat.zero_le _) (Nat.zero_le _)
  · skip
    refine aw_bipush (v := -2) dX7_drop_8 (by decide) ?_
    exact aw_iret dX7_drop_10 rfl (kB h1) (Nat.zero_le _) (Nat.zero_le _)
theorem tX7_lineOf {G : aw_G} {d : Nat} {Ω : aw_O} {I : aw_MI} {J : aw_MJ} {Q : Int32 → aw_O → aw_MI → aw_MJ → Prop} {n m t : Nat} {x y : Int32} (hM : aw_main Ω 0) (hn : I 1 0 = nI n) (hn3 : n ≤ 3) (hm : I 1 2 = nI m) (hm6 : m ≤ 6) (ht : I 1 1 = nI t) (hd : 1 ≤ d) (kB : sp_var x m = 0 ∨ (¬ y = nI 0 ∧ ¬ y = nI 1 ∧ ¬ y = nI 2 ∧ ¬ y = nI 3 ∧ ¬ y = nI 4 ∧ ¬ y = nI 5 ∧ ¬ y = nI 6) → Q (-2) Ω I J) (hQ : ∀ l c, x = nI l → l < m → y = nI c → c ≤ 6 → Q (sp_lo I n t l c) Ω I J) : aw_Call G MX7_lineOf d 0 0 [.ref (aw_ad G 0), .int x, .int y] Ω I J (aw_QI Q) := by
  refine aw_enter (by decide +kernel) rfl (Nat.le_of_ble_eq_true rfl) ?_
  show AW G MX7_lineOf (aw_nx Ω) d 0 0 (aw_QI Q) Ω I J 0 0 [.ref (aw_ad G 0), .int x, .int y] 0 []
  refine aw_aload_n dX7_lineOf_0 rfl ?_
  refine aw_iload_n dX7_lineOf_1 rfl ?_
  refine aw_cvI (As := [_]) (d' := d - 1) dX7_lineOf_2 lkX7_100 hM.o (by omega) rfl rfl (Nat.le_of_ble_eq_true rfl) ⟨Nat.le_refl _, Nat.le_refl _⟩ (tX7_isLine hM hm ?_)
  refine aw_if_ne (t := 11) dX7_lineOf_5 (by decide) (fun h1 => ?_) (fun h1 => ?_)
  · skip
    obtain ⟨l, hl, rfl⟩ := sp_var1 h1
    refine aw_iload_n dX7_lineOf_11 rfl ?_
    by_cases hk0 : y = nI 0
    · refine aw_toI hk0 (aw_tabIn (off := 44) (t := 56) dX7_lineOf_12 (by decide) (by decide) (by decide) (by decide) ?_)
      refine aw_aload_n dX7_lineOf_56 rfl ?_
      refine aw_getR dX7_lineOf_57 flX7_10 hM.o hM.p0 ?_
      refine aw_getR dX7_lineOf_60 flX7_109 hM.q0.o hM.q0.p5 ?_
      refine aw_iload_n dX7_lineOf_63 rfl ?_
      refine aw_iald dX7_lineOf_64 hM.q0.s5 rfl (by omega) ?_
      refine aw_pc (pc2 := 65) rfl ?_
      exact aw_iret dX7_lineOf_65 rfl (hQ l 0 rfl hl hk0 (by decide)) (Nat.zero_le _) (Nat.zero_le _)
    by_cases hk1 : y = nI 1
    · refine aw_toI hk1 (aw_tabIn (off := 54) (t := 66) dX7_lineOf_12 (by decide) (by decide) (by decide) (by decide) ?_)
      refine aw_aload_n dX7_lineOf_66 rfl ?_
      refine aw_getR dX7_lineOf_67 flX7_10 hM.o hM.p0 ?_
      refine aw_getR dX7_lineOf_70 flX7_112 hM.q0.o hM.q0.p6 ?_
      refine aw_iload_n dX7_lineOf_73 rfl ?_
      refine aw_iald dX7_lineOf_74 hM.q0.s6 rfl (by omega) ?_
      refine aw_pc (pc2 := 75) rfl ?_
      exact aw_iret dX7_lineOf_75 rfl (hQ l 1 rfl hl hk1 (by decide)) (Nat.zero_le _) (Nat.zero_le _)
    by_cases hk2 : y = nI 2
    · refine aw_toI hk2 (aw_tabIn (off := 64) (t := 76) dX7_lineOf_12 (by decide) (by decide) (by decide) (by decide) ?_)
      refine aw_aload_n dX7_lineOf_76 rfl ?_
      refine aw_getR dX7_lineOf_77 flX7_10 hM.o hM.p0 ?_
      refine aw_getR dX7_lineOf_80 flX7_115 hM.q0.o hM.q0.p7 ?_
      refine aw_iload_n dX7_lineOf_83 rfl ?_
      refine aw_iald dX7_lineOf_84 hM.q0.s7 rfl (by omega) ?_
      refine aw_pc (pc2 := 85) rfl ?_
      exact aw_iret dX7_lineOf_85 rfl (hQ l 2 rfl hl hk2 (by decide)) (Nat.zero_le _) (Nat.zero_le _)
    by_cases hk3 : y = nI 3
    · refine aw_toI hk3 (aw_tabIn (off := 74) (t := 86) dX7_lineOf_12 (by decide) (by decide) (by decide) (by decide) ?_)
      refine aw_aload_n dX7_lineOf_86 rfl ?_
      refine aw_getR dX7_lineOf_87 flX7_10 hM.o hM.p0 ?_
      refine aw_iload_n dX7_lineOf_90 rfl ?_
      refine aw_aload_n dX7_lineOf_91 rfl ?_
      refine aw_getR dX7_lineOf_92 flX7_10 hM.o hM.p0 ?_
      refine aw_pc (pc2 := 95) rfl ?_
      refine aw_getIv (v := nI t) dX7_lineOf_95 flX7_87 hM.q0.o (by first | exact ht | (simp (disch := omega) only [aw_cp_off, aw_up_off, aw_wr_off, aw_fill_off, aw_fr_off]; exact ht)) ?_
      refine aw_cvI (As := [_, _]) (d' := d - 1) dX7_lineOf_98 lkX7_121 hM.q0.o (by omega) rfl rfl (Nat.le_of_ble_eq_true rfl) ⟨Nat.le_refl _, Nat.le_refl _⟩ (tX1_boundOf hM.q0 (by omega) ?_)
      exact aw_iret dX7_lineOf_101 rfl (hQ l 3 rfl hl hk3 (by decide)) (Nat.zero_le _) (Nat.zero_le _)
    by_cases hk4 : y = nI 4
    · refine aw_toI hk4 (aw_tabIn (off := 90) (t := 102) dX7_lineOf_12 (by decide) (by decide) (by decide) (by decide) ?_)
      subst hk4
      have hk4 : nI 4 = nI 4 := rfl
      refine aw_aload_n dX7_lineOf_102 rfl ?_
      refine aw_iload_n dX7_lineOf_103 rfl ?_
      refine aw_iconst (v := nI 4) dX7_lineOf_104 (by decide) ?_
      refine aw_isubN dX7_lineOf_105 (by omega) ?_
      refine aw_cvI (As := [_]) (d' := d - 1) dX7_lineOf_106 lkX7_63 hM.o (by omega) rfl rfl (Nat.le_of_ble_eq_true rfl) ⟨Nat.le_refl _, Nat.le_refl _⟩ (tX7_isVariable hM hn ?_)
      refine aw_pc (pc2 := 109) rfl ?_
      refine aw_if_eq (t := 126) dX7_lineOf_109 (by decide) (fun h2 => ?_) (fun h2 => ?_)
      · skip
        refine aw_iconst (v := nI 0) dX7_lineOf_126 (by decide) ?_
        have hn9 : ¬ 4 - 4 < n := fun q => by rw [sp_var_in q (by omega)] at h2; exact absurd h2 (by decide)
        exact aw_iret dX7_lineOf_127 rfl (by have q := hQ l 4 rfl hl hk4 (by decide); rw [sp_lo, if_neg (by decide), if_neg (by decide), if_neg hn9] at q; exact q) (Nat.zero_le _) (Nat.zero_le _)
      · skip
        have hc9 : 4 - 4 < n := by
          obtain ⟨j9, hj9, e9⟩ := sp_var1 h2
          have := (nI_eq (a := 4 - 4) (by decide) (by omega)).mp e9
          omega
        refine aw_aload_n dX7_lineOf_112 rfl ?_
        refine aw_getR dX7_lineOf_113 flX7_10 hM.o hM.p0 ?_
        refine aw_iload_n dX7_lineOf_116 rfl ?_
        refine aw_iload_n dX7_lineOf_117 rfl ?_
        refine aw_iconst (v := nI 4) dX7_lineOf_118 (by decide) ?_
        refine aw_pc (pc2 := 119) rfl ?_
        refine aw_isubN dX7_lineOf_119 (by omega) ?_
        refine aw_cvI (As := [_, _]) (d' := d - 1) dX7_lineOf_120 lkX7_124 hM.q0.o (by omega) rfl rfl (Nat.le_of_ble_eq_true rfl) ⟨Nat.le_refl _, Nat.le_refl _⟩ (tX1_rowOf hM.q0 (by omega) (by omega) ?_)
        refine aw_goto (t := 127) dX7_lineOf_123 (by decide) ?_
        exact aw_iret dX7_lineOf_127 rfl (by have q := hQ l 4 rfl hl hk4 (by decide); rw [sp_lo, if_neg (by decide), if_neg (by decide), if_pos (by omega)] at q; exact q) (Nat.zero_le _) (Nat.zero_le _)
    by_cases hk5 : y = nI 5
    · refine aw_toI hk5 (aw_tabIn (off := 90) (t := 102) dX7_lineOf_12 (by decide) (by decide) (by decide) (by decide) ?_)
      subst hk5
      have hk5 : nI 5 = nI 5 := rfl
      refine aw_aload_n dX7_lineOf_102 rfl ?_
      refine aw_iload_n dX7_lineOf_103 rfl ?_
      refine aw_iconst (v := nI 4) dX7_lineOf_104 (by decide) ?_
      refine aw_isubN dX7_lineOf_105 (by omega) ?_
      refine aw_cvI (As := [_]) (d' := d - 1) dX7_lineOf_106 lkX7_63 hM.o (by omega) rfl rfl (Nat.le_of_ble_eq_true rfl) ⟨Nat.le_refl _, Nat.le_refl _⟩ (tX7_isVariable hM hn ?_)
      refine aw_pc (pc2 := 109) rfl ?_
      refine aw_if_eq (t := 126) dX7_lineOf_109 (by decide) (fun h3 => ?_) (fun h3 => ?_)
      · skip
        refine aw_iconst (v := nI 0) dX7_lineOf_126 (by decide) ?_
        have hn9 : ¬ 5 - 4 < n := fun q => by rw [sp_var_in q (by omega)] at h3; exact absurd h3 (by decide)
        exact aw_iret dX7_lineOf_127 rfl (by have q := hQ l 5 rfl hl hk5 (by decide); rw [sp_lo, if_neg (by decide), if_neg (by decide), if_neg hn9] at q; exact q) (Nat.zero_le _) (Nat.zero_le _)
      · skip
        have hc9 : 5 - 4 < n := by
          obtain ⟨j9, hj9, e9⟩ := sp_var1 h3
          have := (nI_eq (a := 5 - 4) (by decide) (by omega)).mp e9
          omega
        refine aw_aload_n dX7_lineOf_112 rfl ?_
        refine aw_getR dX7_lineOf_113 flX7_10 hM.o hM.p0 ?_
        refine aw_iload_n dX7_lineOf_116 rfl ?_
        refine aw_iload_n dX7_lineOf_117 rfl ?_
        refine aw_iconst (v := nI 4) dX7_lineOf_118 (by decide) ?_
        refine aw_pc (pc2 := 119) rfl ?_
        refine aw_isubN dX7_lineOf_119 (by omega) ?_
        refine aw_cvI (As := [_, _]) (d' := d - 1) dX7_lineOf_120 lkX7_124 hM.q0.o (by omega) rfl rfl (Nat.le_of_ble_eq_true rfl) ⟨Nat.le_refl _, Nat.le_refl _⟩ (tX1_rowOf hM.q0 (by omega) (by omega) ?_)
        refine aw_goto (t := 127) dX7_lineOf_123 (by decide) ?_
        exact aw_iret dX7_lineOf_127 rfl (by have q := hQ l 5 rfl hl hk5 (by decide); rw [sp_lo, if_neg (by decide), if_neg (by decide), if_pos (by omega)] at q; exact q) (Nat.zero_le _) (Nat.zero_le _)
    by_cases hk6 : y = nI 6
    · refine aw_toI hk6 (aw_tabIn (off := 90) (t := 102) dX7_lineOf_12 (by decide) (by decide) (by decide) (by decide) ?_)
      subst hk6
      have hk6 : nI 6 = nI 6 := rfl
      refine aw_aload_n dX7_lineOf_102 rfl ?_
      refine aw_iload_n dX7_lineOf_103 rfl ?_
      refine aw_iconst (v := nI 4) dX7_lineOf_104 (by decide) ?_
      refine aw_isubN dX7_lineOf_105 (by omega) ?_
      refine aw_cvI (As := [_]) (d' := d - 1) dX7_lineOf_106 lkX7_63 hM.o (by omega) rfl rfl (Nat.le_of_ble_eq_true rfl) ⟨Nat.le_refl _, Nat.le_refl _⟩ (tX7_isVariable hM hn ?_)
      refine aw_pc (pc2 := 109) rfl ?_
      refine aw_if_eq (t := 126) dX7_lineOf_109 (by decide) (fun h4 => ?_) (fun h4 => ?_)
      · skip
        refine aw_iconst (v := nI 0) dX7_lineOf_126 (by decide) ?_
        have hn9 : ¬ 6 - 4 < n := fun q => by rw [sp_var_in q (by omega)] at h4; exact absurd h4 (by decide)
        exact aw_iret dX7_lineOf_127 rfl (by have q := hQ l 6 rfl hl hk6 (by decide); rw [sp_lo, if_neg (by decide), if_neg (by decide), if_neg hn9] at q; exact q) (Nat.zero_le _) (Nat.zero_le _)
      · skip
        have hc9 : 6 - 4 < n := by
          obtain ⟨j9, hj9, e9⟩ := sp_var1 h4
          have := (nI_eq (a := 6 - 4) (by decide) (by omega)).mp e9
          omega
        refine aw_aload_n dX7_lineOf_112 rfl ?_
        refine aw_getR dX7_lineOf_113 flX7_10 hM.o hM.p0 ?_
        refine aw_iload_n dX7_lineOf_116 rfl ?_
        refine aw_iload_n dX7_lineOf_117 rfl ?_
        refine aw_iconst (v := nI 4) dX7_lineOf_118 (by decide) ?_
        refine aw_pc (pc2 := 119) rfl ?_
        refine aw_isubN dX7_lineOf_119 (by omega) ?_
        refine aw_cvI (As := [_, _]) (d' := d - 1) dX7_lineOf_120 lkX7_124 hM.q0.o (by omega) rfl rfl (Nat.le_of_ble_eq_true rfl) ⟨Nat.le_refl _, Nat.le_refl _⟩ (tX1_rowOf hM.q0 (by omega) (by omega) ?_)
        refine aw_goto (t := 127) dX7_lineOf_123 (by decide) ?_
        exact aw_iret dX7_lineOf_127 rfl (by have q := hQ l 6 rfl hl hk6 (by decide); rw [sp_lo, if_neg (by decide), if_neg (by decide), if_pos (by omega)] at q; exact q) (Nat.zero_le _) (Nat.zero_le _)
    refine aw_tabOut (t := 128) dX7_lineOf_12 (sw_06 hk0 hk1 hk2 hk3 hk4 hk5 hk6) (by decide) ?_
    refine aw_bipush (v := -2) dX7_lineOf_128 (by decide) ?_
    exact aw_iret dX7_lineOf_130 rfl (kB (Or.inr ⟨hk0, hk1, hk2, hk3, hk4, hk5, hk6⟩)) (Nat.zero_le _) (Nat.zero_le _)
  · skip
    refine aw_bipush (v := -2) dX7_lineOf_8 (by decide) ?_
    exact aw_iret dX7_lineOf_10 rfl (kB (Or.inl h1)) (Nat.zero_le _) (Nat.zero_le _)
theorem tX7_minor {G : aw_G} {d : Nat} {Ω : aw_O} {I : aw_MI} {J : aw_MJ} {Q : Int32 → aw_O → aw_MI → aw_MJ → Prop} {n : Nat} {x : Int32} (hM : aw_main Ω 0) (hn : I 1 0 = nI n) (hn3 : n ≤ 3) (hd : 2 ≤ d) (kB : x < nI 1 ∨ nI n < x → Q (-2) Ω I J) (hQ : ∀ j, x = nI j → 1 ≤ j → j ≤ n → Q (sp_minor (I 2) j) Ω I J) : aw_Call G MX7_minor d 0 0 [.ref (aw_ad G 0), .int x] Ω I J (aw_QI Q) := by
  refine aw_enter (by decide +kernel) rfl (Nat.le_of_ble_eq_true rfl) ?_
  show AW G MX7_minor (aw_nx Ω) d 0 0 (aw_QI Q) Ω I J 0 0 [.ref (aw_ad G 0), .int x] 0 []
  refine aw_iload_n dX7_minor_0 rfl ?_
  refine aw_iconst (v := nI 1) dX7_minor_1 (by decide) ?_
  refine aw_icmp_lt (t := 16) dX7_minor_2 (by decide) (fun h1 => ?_) (fun h1 => ?_)
  · skip
    refine aw_bipush (v := -2) dX7_minor_16 (by decide) ?_
    refine aw_goto (t := 29) dX7_minor_18 (by decide) ?_
    try simp only [lcmpE, lcmpL, lcmpG, lcmpLE, lcmpGT, nrm_le, nrm_le64, Classical.not_not] at h1
    exact aw_iret dX7_minor_29 rfl (kB (Or.inl h1)) (Nat.zero_le _) (Nat.zero_le _)
  · skip
    refine aw_iload_n dX7_minor_5 rfl ?_
    refine aw_aload_n dX7_minor_6 rfl ?_
    refine aw_getR dX7_minor_7 flX7_10 hM.o hM.p0 ?_
    refine aw_getIv (v := nI n) dX7_minor_10 flX7_59 hM.q0.o (by first | exact hn | (simp (disch := omega) only [aw_cp_off, aw_up_off, aw_wr_off, aw_fill_off, aw_fr_off]; exact hn)) ?_
    refine aw_icmp_le (t := 21) dX7_minor_13 (by decide) (fun h2 => ?_) (fun h2 => ?_)
    · skip
      try simp only [lcmpE, lcmpL, lcmpG, lcmpLE, lcmpGT, nrm_le, nrm_le64, Classical.not_not] at h1
      try simp only [lcmpE, lcmpL, lcmpG, lcmpLE, lcmpGT, nrm_le, nrm_le64, Classical.not_not] at h2
      obtain ⟨j, rfl, j1, j3⟩ := nI_rng h1 h2 (by decide) (by omega)
      refine aw_aload_n dX7_minor_21 rfl ?_
      refine aw_getR dX7_minor_22 flX7_10 hM.o hM.p0 ?_
      refine aw_iload_n dX7_minor_25 rfl ?_
      refine aw_cvI (As := [_]) (d' := d - 1) dX7_minor_26 lkX7_127 hM.q0.o (by omega) rfl rfl (Nat.le_of_ble_eq_true rfl) ⟨Nat.le_refl _, Nat.le_refl _⟩ (tX1_determinant hM.q0 (by omega) (by omega) ?_)
      try simp only [lcmpE, lcmpL, lcmpG, lcmpLE, lcmpGT, nrm_le, nrm_le64, Classical.not_not] at h1
      try simp only [lcmpE, lcmpL, lcmpG, lcmpLE, lcmpGT, nrm_le, nrm_le64, Classical.not_not] at h2
      exact aw_iret dX7_minor_29 rfl (hQ j rfl j1 j3) (Nat.zero_le _) (Nat.zero_le _)
    · skip
      refine aw_bipush (v := -2) dX7_minor_16 (by decide) ?_
      refine aw_goto (t := 29) dX7_minor_18 (by decide) ?_
      try simp only [lcmpE, lcmpL, lcmpG, lcmpLE, lcmpGT, nrm_le, nrm_le64, Classical.not_not] at h1
      try simp only [lcmpE, lcmpL, lcmpG, lcmpLE, lcmpGT, nrm_le, nrm_le64, Classical.not_not] at h2
      exact aw_iret dX7_minor_29 rfl (kB (Or.inr h2)) (Nat.zero_le _) (Nat.zero_le _)
theorem tX7_isProper {G : aw_G} {d : Nat} {Ω : aw_O} {I : aw_MI} {J : aw_MJ} {Q : Int32 → aw_O → aw_MI → aw_MJ → Prop} {n : Nat} (hM : aw_main Ω 0) (hn : I 1 0 = nI n) (hn3 : n ≤ 3) (hd : 3 ≤ d) (hQ : Q (sp_hl (I 2) 1 n) Ω I J) : aw_Call G MX7_isProper d 0 0 [.ref (aw_ad G 0)] Ω I J (aw_QI Q) := by
  refine aw_enter (by decide +kernel) rfl (Nat.le_of_ble_eq_true rfl) ?_
  show AW G MX7_isProper (aw_nx Ω) d 0 0 (aw_QI Q) Ω I J 0 0 [.ref (aw_ad G 0)] 0 []
  refine aw_aload_n dX7_isProper_0 rfl ?_
  refine aw_getR dX7_isProper_1 flX7_10 hM.o hM.p0 ?_
  refine aw_cvI (As := []) (d' := d - 1) dX7_isProper_4 lkX7_131 hM.q0.o (by omega) rfl rfl (Nat.le_of_ble_eq_true rfl) ⟨Nat.le_refl _, Nat.le_refl _⟩ (tX1_hasLeast hM.q0 hn hn3 (by omega) ?_)
  refine aw_if_eq (t := 14) dX7_isProper_7 (by decide) (fun h1 => ?_) (fun h1 => ?_)
  · skip
    refine aw_iconst (v := nI 0) dX7_isProper_14 (by decide) ?_
    exact aw_iret dX7_isProper_15 rfl (by rcases sp_hl01 (I 2) n 1 with q | q <;> first | (rw [q] at hQ; exact hQ) | exact absurd (q.trans rfl) h1 | exact absurd (q.symm.trans h1) (by decide)) (Nat.zero_le _) (Nat.zero_le _)
  · skip
    refine aw_iconst (v := nI 1) dX7_isProper_10 (by decide) ?_
    refine aw_goto (t := 15) dX7_isProper_11 (by decide) ?_
    exact aw_iret dX7_isProper_15 rfl (by rcases sp_hl01 (I 2) n 1 with q | q <;> first | (rw [q] at hQ; exact hQ) | exact absurd (q.trans rfl) h1 | exact absurd (q.symm.trans h1) (by decide)) (Nat.zero_le _) (Nat.zero_le _)
theorem tX7_count {G : aw_G} {d : Nat} {Ω : aw_O} {I : aw_MI} {J : aw_MJ} {Q : Int32 → aw_O → aw_MI → aw_MJ → Prop} {n m t : Nat} {x : Int32} (hM : aw_main Ω 0) (hn : I 1 0 = nI n) (hm : I 1 2 = nI m) (hm6 : m ≤ 6) (ht : I 1 1 = nI t) (hd : 2 ≤ d) (hQ0 : x = nI 0 → Q (nI n) Ω I J) (hQ1 : x = nI 1 → Q (nI m) Ω I J) (hQ2 : x = nI 2 → Q (nI t) Ω I J) (hQ3 : x = nI 3 → Q (sp_cnt (I 4) m) Ω I J) (hQ4 : ¬ x = nI 0 → ¬ x = nI 1 → ¬ x = nI 2 → ¬ x = nI 3 → Q (-2) Ω I J) : aw_Call G MX7_count d 0 0 [.ref (aw_ad G 0), .int x] Ω I J (aw_QI Q) := by
  refine aw_enter (by decide +kernel) rfl (Nat.le_of_ble_eq_true rfl) ?_
  show AW G MX7_count (aw_nx Ω) d 0 0 (aw_QI Q) Ω I J 0 0 [.ref (aw_ad G 0), .int x] 0 []
  refine aw_iload_n dX7_count_0 rfl ?_
  by_cases hk0 : x = nI 0
  · refine aw_toI hk0 (aw_tabIn (off := 31) (t := 32) dX7_count_1 (by decide) (by decide) (by decide) (by decide) ?_)
    refine aw_aload_n dX7_count_32 rfl ?_
    refine aw_getR dX7_count_33 flX7_10 hM.o hM.p0 ?_
    refine aw_getIv (v := nI n) dX7_count_36 flX7_59 hM.q0.o (by first | exact hn | (simp (disch := omega) only [aw_cp_off, aw_up_off, aw_wr_off, aw_fill_off, aw_fr_off]; exact hn)) ?_
    exact aw_iret dX7_count_39 rfl (hQ0 hk0) (Nat.zero_le _) (Nat.zero_le _)
  by_cases hk1 : x = nI 1
  · refine aw_toI hk1 (aw_tabIn (off := 39) (t := 40) dX7_count_1 (by decide) (by decide) (by decide) (by decide) ?_)
    refine aw_aload_n dX7_count_40 rfl ?_
    refine aw_getR dX7_count_41 flX7_10 hM.o hM.p0 ?_
    refine aw_getIv (v := nI m) dX7_count_44 flX7_93 hM.q0.o (by first | exact hm | (simp (disch := omega) only [aw_cp_off, aw_up_off, aw_wr_off, aw_fill_off, aw_fr_off]; exact hm)) ?_
    exact aw_iret dX7_count_47 rfl (hQ1 hk1) (Nat.zero_le _) (Nat.zero_le _)
  by_cases hk2 : x = nI 2
  · refine aw_toI hk2 (aw_tabIn (off := 47) (t := 48) dX7_count_1 (by decide) (by decide) (by decide) (by decide) ?_)
    refine aw_aload_n dX7_count_48 rfl ?_
    refine aw_getR dX7_count_49 flX7_10 hM.o hM.p0 ?_
    refine aw_getIv (v := nI t) dX7_count_52 flX7_87 hM.q0.o (by first | exact ht | (simp (disch := omega) only [aw_cp_off, aw_up_off, aw_wr_off, aw_fill_off, aw_fr_off]; exact ht)) ?_
    exact aw_iret dX7_count_55 rfl (hQ2 hk2) (Nat.zero_le _) (Nat.zero_le _)
  by_cases hk3 : x = nI 3
  · refine aw_toI hk3 (aw_tabIn (off := 55) (t := 56) dX7_count_1 (by decide) (by decide) (by decide) (by decide) ?_)
    refine aw_aload_n dX7_count_56 rfl ?_
    refine aw_getR dX7_count_57 flX7_10 hM.o hM.p0 ?_
    refine aw_cvI (As := []) (d' := d - 1) dX7_count_60 lkX7_304 hM.q0.o (by omega) rfl rfl (Nat.le_of_ble_eq_true rfl) ⟨Nat.le_refl _, Nat.le_refl _⟩ (tX1_linesOn hM.q0 hm hm6 (by omega) ?_)
    exact aw_iret dX7_count_63 rfl (hQ3 hk3) (Nat.zero_le _) (Nat.zero_le _)
  refine aw_tabOut (t := 64) dX7_count_1 (sw_03 hk0 hk1 hk2 hk3) (by decide) ?_
  refine aw_bipush (v := -2) dX7_count_64 (by decide) ?_
  exact aw_iret dX7_count_66 rfl (hQ4 hk0 hk1 hk2 hk3) (Nat.zero_le _) (Nat.zero_le _)
theorem tX7_notes {G : aw_G} {d : Nat} {Ω : aw_O} {I : aw_MI} {J : aw_MJ} {Q : Int32 → aw_O → aw_MI → aw_MJ → Prop} (hM : aw_main Ω 0) (hQ : Q (I 64 0) Ω I J) : aw_Call G MX7_notes d 0 0 [.ref (aw_ad G 0)] Ω I J (aw_QI Q) := by
  refine aw_enter (by decide +kernel) rfl (Nat.le_of_ble_eq_true rfl) ?_
  show AW G MX7_notes (aw_nx Ω) d 0 0 (aw_QI Q) Ω I J 0 0 [.ref (aw_ad G 0)] 0 []
  refine aw_aload_n dX7_notes_0 rfl ?_
  refine aw_getR dX7_notes_1 flX7_51 hM.o hM.p7 ?_
  refine aw_getI dX7_notes_4 flX7_259 hM.q7.o ?_
  exact aw_iret dX7_notes_7 rfl (hQ) (Nat.zero_le _) (Nat.zero_le _)
theorem tX7_mark {G : aw_G} {d : Nat} {Ω : aw_O} {I : aw_MI} {J : aw_MJ} {Q : Int64 → aw_O → aw_MI → aw_MJ → Prop} (hM : aw_main Ω 0) (hQ : Q (J 64 1) Ω I J) : aw_Call G MX7_mark d 0 0 [.ref (aw_ad G 0)] Ω I J (aw_QL Q) := by
  refine aw_enter (by decide +kernel) rfl (Nat.le_of_ble_eq_true rfl) ?_
  show AW G MX7_mark (aw_nx Ω) d 0 0 (aw_QL Q) Ω I J 0 0 [.ref (aw_ad G 0)] 0 []
  refine aw_aload_n dX7_mark_0 rfl ?_
  refine aw_getR dX7_mark_1 flX7_51 hM.o hM.p7 ?_
  refine aw_getJ dX7_mark_4 flX7_262 hM.q7.o ?_
  exact aw_lret dX7_mark_7 rfl (hQ) (Nat.zero_le _) (Nat.zero_le _)
theorem tX7_trail {G : aw_G} {d : Nat} {Ω : aw_O} {I : aw_MI} {J : aw_MJ} {Q : Int32 → aw_O → aw_MI → aw_MJ → Prop} {x : Int32} (hM : aw_main Ω 0) (hd : 1 ≤ d) (kB : x < 0 ∨ ¬ x < nI 8 ∨ ¬ x < I 64 0 → Q (-12) Ω I J) (hQ : ∀ k, x = nI k → k < 8 → x < I 64 0 → Q ((J 64 4 >>> ((nI (8 * k)).toInt64 &&& 63)).toInt32.toInt8.toInt32) Ω I J) : aw_Call G MX7_trail d 0 0 [.ref (aw_ad G 0), .int x] Ω I J (aw_QI Q) := by
  refine aw_enter (by decide +kernel) rfl (Nat.le_of_ble_eq_true rfl) ?_
  show AW G MX7_trail (aw_nx Ω) d 0 0 (aw_QI Q) Ω I J 0 0 [.ref (aw_ad G 0), .int x] 0 []
  refine aw_iload_n dX7_trail_0 rfl ?_
  refine aw_if_lt (t := 21) dX7_trail_1 (by decide) (fun h1 => ?_) (fun h1 => ?_)
  · skip
    refine aw_bipush (v := -12) dX7_trail_21 (by decide) ?_
    refine aw_goto (t := 34) dX7_trail_23 (by decide) ?_
    try simp only [lcmpE, lcmpL, lcmpG, lcmpLE, lcmpGT, nrm_le, nrm_le64, Classical.not_not] at h1
    exact aw_iret dX7_trail_34 rfl (kB (Or.inl h1)) (Nat.zero_le _) (Nat.zero_le _)
  · skip
    refine aw_iload_n dX7_trail_4 rfl ?_
    refine aw_bipush (v := nI 8) dX7_trail_5 (by decide) ?_
    refine aw_icmp_ge (t := 21) dX7_trail_7 (by decide) (fun h2 => ?_) (fun h2 => ?_)
    · skip
      refine aw_bipush (v := -12) dX7_trail_21 (by decide) ?_
      refine aw_goto (t := 34) dX7_trail_23 (by decide) ?_
      try simp only [lcmpE, lcmpL, lcmpG, lcmpLE, lcmpGT, nrm_le, nrm_le64, Classical.not_not] at h1
      try simp only [lcmpE, lcmpL, lcmpG, lcmpLE, lcmpGT, nrm_le, nrm_le64, Classical.not_not] at h2
      exact aw_iret dX7_trail_34 rfl (kB (Or.inr (Or.inl h2))) (Nat.zero_le _) (Nat.zero_le _)
    · skip
      try simp only [lcmpE, lcmpL, lcmpG, lcmpLE, lcmpGT, nrm_le, nrm_le64, Classical.not_not] at h1
      try simp only [lcmpE, lcmpL, lcmpG, lcmpLE, lcmpGT, nrm_le, nrm_le64, Classical.not_not] at h2
      obtain ⟨k, hk, rfl⟩ := sp_var1 (sp_var_of h1 h2)
      refine aw_iload_n dX7_trail_10 rfl ?_
      refine aw_aload_n dX7_trail_11 rfl ?_
      refine aw_getR dX7_trail_12 flX7_51 hM.o hM.p7 ?_
      refine aw_getI dX7_trail_15 flX7_259 hM.q7.o ?_
      refine aw_icmp_lt (t := 26) dX7_trail_18 (by decide) (fun h3 => ?_) (fun h3 => ?_)
      · skip
        refine aw_aload_n dX7_trail_26 rfl ?_
        refine aw_getR dX7_trail_27 flX7_51 hM.o hM.p7 ?_
        refine aw_iload_n dX7_trail_30 rfl ?_
        refine aw_cvI (As := [_]) (d' := d - 1) dX7_trail_31 lkX7_265 hM.q7.o (by omega) rfl rfl (Nat.le_of_ble_eq_true rfl) ⟨Nat.le_refl _, Nat.le_refl _⟩ (tX0_lastBut hM.q7 ?_)
        try simp only [lcmpE, lcmpL, lcmpG, lcmpLE, lcmpGT, nrm_le, nrm_le64, Classical.not_not] at h1
        try simp only [lcmpE, lcmpL, lcmpG, lcmpLE, lcmpGT, nrm_le, nrm_le64, Classical.not_not] at h2
        try simp only [lcmpE, lcmpL, lcmpG, lcmpLE, lcmpGT, nrm_le, nrm_le64, Classical.not_not] at h3
        exact aw_iret dX7_trail_34 rfl (hQ k rfl hk h3) (Nat.zero_le _) (Nat.zero_le _)
      · skip
        refine aw_bipush (v := -12) dX7_trail_21 (by decide) ?_
        refine aw_goto (t := 34) dX7_trail_23 (by decide) ?_
        try simp only [lcmpE, lcmpL, lcmpG, lcmpLE, lcmpGT, nrm_le, nrm_le64, Classical.not_not] at h1
        try simp only [lcmpE, lcmpL, lcmpG, lcmpLE, lcmpGT, nrm_le, nrm_le64, Classical.not_not] at h2
        try simp only [lcmpE, lcmpL, lcmpG, lcmpLE, lcmpGT, nrm_le, nrm_le64, Classical.not_not] at h3
        exact aw_iret dX7_trail_34 rfl (kB (Or.inr (Or.inr (h3)))) (Nat.zero_le _) (Nat.zero_le _)
theorem tX7_least {G : aw_G} {d : Nat} {Ω : aw_O} {I : aw_MI} {J : aw_MJ} {Q : Int64 → aw_O → aw_MI → aw_MJ → Prop} {x : Int32} (hM : aw_main Ω 0) (hd : 3 ≤ d) (k1 : sp_part x = 0 → Q (-4611686018427387906) Ω I J) (k2 : ¬ sp_part x = 0 → J 64 3 = 0 → Q (-4611686018427387905) Ω I J) (hQ : ¬ sp_part x = 0 → ¬ J 64 3 = 0 → Q (sp_told (J 64 2) (J 64 3) x) Ω I J) : aw_Call G MX7_least d 0 0 [.ref (aw_ad G 0), .int x] Ω I J (aw_QL Q) := by
  refine aw_enter (by decide +kernel) rfl (Nat.le_of_ble_eq_true rfl) ?_
  show AW G MX7_least (aw_nx Ω) d 0 0 (aw_QL Q) Ω I J 0 0 [.ref (aw_ad G 0), .int x] 0 []
  refine aw_iload_n dX7_least_0 rfl ?_
  refine aw_csI (As := [_]) (d' := d - 1) dX7_least_1 lkX7_142 (by omega) rfl rfl (Nat.le_of_ble_eq_true rfl) ⟨Nat.le_refl _, Nat.le_refl _⟩ (tX7_isPart ?_)
  refine aw_if_ne (t := 11) dX7_least_4 (by decide) (fun h1 => ?_) (fun h1 => ?_)
  · skip
    refine aw_aload_n dX7_least_11 rfl ?_
    refine aw_getR dX7_least_12 flX7_51 hM.o hM.p7 ?_
    refine aw_getJ dX7_least_15 flX7_270 hM.q7.o ?_
    refine aw_lconst (v := 0) dX7_least_18 (by decide) ?_
    refine aw_lcmp dX7_least_19 ?_
    refine aw_pc (pc2 := 20) rfl ?_
    refine aw_if_ne (t := 27) dX7_least_20 (by decide) (fun h2 => ?_) (fun h2 => ?_)
    · skip
      refine aw_aload_n dX7_least_27 rfl ?_
      refine aw_getR dX7_least_28 flX7_51 hM.o hM.p7 ?_
      refine aw_getJ dX7_least_31 flX7_273 hM.q7.o ?_
      refine aw_aload_n dX7_least_34 rfl ?_
      refine aw_getR dX7_least_35 flX7_51 hM.o hM.p7 ?_
      refine aw_pc (pc2 := 38) rfl ?_
      refine aw_getJ dX7_least_38 flX7_270 hM.q7.o ?_
      refine aw_iload_n dX7_least_41 rfl ?_
      refine aw_csL (As := [_, _, _]) (d' := d - 1) dX7_least_42 lkX7_161 (by omega) rfl rfl (Nat.le_of_ble_eq_true rfl) ⟨Nat.le_refl _, Nat.le_refl _⟩ (tX3_told (by omega) ?_)
      try simp only [lcmpE, lcmpL, lcmpG, lcmpLE, lcmpGT, nrm_le, nrm_le64, Classical.not_not] at h1
      try simp only [lcmpE, lcmpL, lcmpG, lcmpLE, lcmpGT, nrm_le, nrm_le64, Classical.not_not] at h2
      exact aw_lret dX7_least_45 rfl (hQ h1 h2) (Nat.zero_le _) (Nat.zero_le _)
    · skip
      refine aw_ldc2 (v := -4611686018427387905) dX7_least_23 (aw_pl 596 (by decide +kernel) rfl) ?_
      try simp only [lcmpE, lcmpL, lcmpG, lcmpLE, lcmpGT, nrm_le, nrm_le64, Classical.not_not] at h1
      try simp only [lcmpE, lcmpL, lcmpG, lcmpLE, lcmpGT, nrm_le, nrm_le64, Classical.not_not] at h2
      exact aw_lret dX7_least_26 rfl (k2 h1 h2) (Nat.zero_le _) (Nat.zero_le _)
  · skip
    refine aw_ldc2 (v := -4611686018427387906) dX7_least_7 (aw_pl 730 (by decide +kernel) rfl) ?_
    try simp only [lcmpE, lcmpL, lcmpG, lcmpLE, lcmpGT, nrm_le, nrm_le64, Classical.not_not] at h1
    exact aw_lret dX7_least_10 rfl (k1 h1) (Nat.zero_le _) (Nat.zero_le _)
theorem tX7_image {G : aw_G} {d : Nat} {Ω : aw_O} {I : aw_MI} {J : aw_MJ} {Q : Int32 → aw_O → aw_MI → aw_MJ → Prop} {m : Nat} (hM : aw_main Ω 0) (hm : I 1 2 = nI m) (hd : 3 ≤ d) (hQ : Q (nI m) Ω (aw_up (aw_cp (aw_cp (aw_cp (aw_cp (aw_cp (aw_cp (aw_up (aw_up (aw_up I 8 0 (I 1 0)) 8 1 (I 1 1)) 8 2 (I 1 2)) (2) (9) (0) (0) (9)) (3) (10) (0) (0) (3)) (4) (11) (0) (0) (6)) (5) (12) (0) (0) (6)) (6) (13) (0) (0) (6)) (7) (14) (0) (0) (18)) 0 8 (nI 1)) J) : aw_Call G MX7_image d 0 0 [.ref (aw_ad G 0)] Ω I J (aw_QI Q) := by
  refine aw_enter (by decide +kernel) rfl (Nat.le_of_ble_eq_true rfl) ?_
  show AW G MX7_image (aw_nx Ω) d 0 0 (aw_QI Q) Ω I J 0 0 [.ref (aw_ad G 0)] 0 []
  refine aw_aload_n dX7_image_0 rfl ?_
  refine aw_getR dX7_image_1 flX7_16 hM.o hM.p1 ?_
  refine aw_aload_n dX7_image_4 rfl ?_
  refine aw_getR dX7_image_5 flX7_10 hM.o hM.p0 ?_
  refine aw_cvV (As := [_]) (d' := d - 1) dX7_image_8 lkX7_297 hM.q1.o (by omega) rfl rfl (Nat.le_of_ble_eq_true rfl) ⟨Nat.le_refl _, Nat.le_refl _⟩ (tX1_become hM.q1 hM.q0 (by decide) (by omega) ?_)
  refine aw_pc (pc2 := 11) rfl ?_
  refine aw_aload_n dX7_image_11 rfl ?_
  refine aw_iconst (v := nI 1) dX7_image_12 (by decide) ?_
  refine aw_putZ dX7_image_13 fwX7_300 hM.o (by decide) rfl ?_
  refine aw_aload_n dX7_image_16 rfl ?_
  refine aw_getR dX7_image_17 flX7_16 hM.o hM.p1 ?_
  refine aw_getIv (v := nI m) dX7_image_20 flX7_93 hM.q1.o (by simp (disch := omega) only [aw_cp_off, aw_up_off, aw_wr_off, aw_fill_off, aw_fr_off, aw_up_self]; exact hm) ?_
  refine aw_pc (pc2 := 23) rfl ?_
  exact aw_iret dX7_image_23 rfl (hQ) (Nat.zero_le _) (Nat.zero_le _)
theorem tX7_back {G : aw_G} {d : Nat} {Ω : aw_O} {I : aw_MI} {J : aw_MJ} {Q : Int32 → aw_O → aw_MI → aw_MJ → Prop} (hM : aw_main Ω 0) (hd : 3 ≤ d) (k1 : I 0 8 = 0 → Q (-3) Ω I J) (hQ : ¬ I 0 8 = 0 → Q (I 8 2) Ω (aw_cp (aw_cp (aw_cp (aw_cp (aw_cp (aw_cp (aw_up (aw_up (aw_up I 1 0 (I 8 0)) 1 1 (I 8 1)) 1 2 (I 8 2)) (9) (2) (0) (0) (9)) (10) (3) (0) (0) (3)) (11) (4) (0) (0) (6)) (12) (5) (0) (0) (6)) (13) (6) (0) (0) (6)) (14) (7) (0) (0) (18)) J) : aw_Call G MX7_back d 0 0 [.ref (aw_ad G 0)] Ω I J (aw_QI Q) := by
  refine aw_enter (by decide +kernel) rfl (Nat.le_of_ble_eq_true rfl) ?_
  show AW G MX7_back (aw_nx Ω) d 0 0 (aw_QI Q) Ω I J 0 0 [.ref (aw_ad G 0)] 0 []
  refine aw_aload_n dX7_back_0 rfl ?_
  refine aw_getZ dX7_back_1 flX7_300 hM.o ?_
  refine aw_if_ne (t := 10) dX7_back_4 (by decide) (fun h1 => ?_) (fun h1 => ?_)
  · skip
    refine aw_aload_n dX7_back_10 rfl ?_
    refine aw_getR dX7_back_11 flX7_10 hM.o hM.p0 ?_
    refine aw_aload_n dX7_back_14 rfl ?_
    refine aw_getR dX7_back_15 flX7_16 hM.o hM.p1 ?_
    refine aw_cvV (As := [_]) (d' := d - 1) dX7_back_18 lkX7_297 hM.q0.o (by omega) rfl rfl (Nat.le_of_ble_eq_true rfl) ⟨Nat.le_refl _, Nat.le_refl _⟩ (tX1_become hM.q0 hM.q1 (by decide) (by omega) ?_)
    refine aw_pc (pc2 := 21) rfl ?_
    refine aw_aload_n dX7_back_21 rfl ?_
    refine aw_getR dX7_back_22 flX7_10 hM.o hM.p0 ?_
    refine aw_getIv (v := I 8 2) dX7_back_25 flX7_93 hM.q0.o (by simp (disch := omega) only [aw_cp_off, aw_up_off, aw_wr_off, aw_fill_off, aw_fr_off, aw_up_self]) ?_
    exact aw_iret dX7_back_28 rfl (hQ h1) (Nat.zero_le _) (Nat.zero_le _)
  · skip
    refine aw_bipush (v := -3) dX7_back_7 (by decide) ?_
    exact aw_iret dX7_back_9 rfl (k1 h1) (Nat.zero_le _) (Nat.zero_le _)
theorem tX7_sheet {G : aw_G} {d : Nat} {Ω : aw_O} {I : aw_MI} {J : aw_MJ} {Q : Int32 → aw_O → aw_MI → aw_MJ → Prop} {x y v : Int32} (hM : aw_main Ω 0) (hd : 2 ≤ d) (kB : sp_var x 4 = 0 ∨ y < -1 ∨ nI 1 < y → Q (-2) Ω I J) (kG : ¬ sp_var x 4 = 0 → ¬ y < -1 → ¬ nI 1 < y → ¬ y = -1 → nI 12 < v → Q (-2) Ω I J) (kS : ¬ sp_var x 4 = 0 → ¬ y < -1 → ¬ nI 1 < y → ¬ y = -1 → v < 0 → Q (-14) Ω I J) (hN : ∀ s, x = nI s → s < 4 → y = -1 → Q (nI 1) Ω (aw_up (aw_up I 57 s y) 58 s (nI 0)) (aw_fr J 59 (s * 12) 12 0)) (hQ : ∀ s j, x = nI s → s < 4 → ¬ y < -1 → ¬ nI 1 < y → ¬ y = -1 → v = nI j → j ≤ 12 → Q (nI 1) Ω (aw_up (aw_up I 57 s y) 58 s v) (aw_fr J 59 (s * 12) 12 0)) : aw_Call G MX7_sheet d 0 0 [.ref (aw_ad G 0), .int x, .int y, .int v] Ω I J (aw_QI Q) := by
  refine aw_enter (by decide +kernel) rfl (Nat.le_of_ble_eq_true rfl) ?_
  show AW G MX7_sheet (aw_nx Ω) d 0 0 (aw_QI Q) Ω I J 0 0 [.ref (aw_ad G 0), .int x, .int y, .int v, .null] 0 []
  refine aw_iload_n dX7_sheet_0 rfl ?_
  refine aw_csI (As := [_]) (d' := d - 1) dX7_sheet_1 lkX7_223 (by omega) rfl rfl (Nat.le_of_ble_eq_true rfl) ⟨Nat.le_refl _, Nat.le_refl _⟩ (tX7_isSheet ?_)
  refine aw_if_eq (t := 17) dX7_sheet_4 (by decide) (fun h1 => ?_) (fun h1 => ?_)
  · skip
    refine aw_bipush (v := -2) dX7_sheet_17 (by decide) ?_
    try simp only [lcmpE, lcmpL, lcmpG, lcmpLE, lcmpGT, nrm_le, nrm_le64, Classical.not_not] at h1
    exact aw_iret dX7_sheet_19 rfl (kB (Or.inl h1)) (Nat.zero_le _) (Nat.zero_le _)
  · skip
    have hv := h1
    obtain ⟨s, hs, rfl⟩ := sp_var1 h1
    refine aw_iload_n dX7_sheet_7 rfl ?_
    refine aw_iconst (v := -1) dX7_sheet_8 (by decide) ?_
    refine aw_icmp_lt (t := 17) dX7_sheet_9 (by decide) (fun h2 => ?_) (fun h2 => ?_)
    · skip
      refine aw_bipush (v := -2) dX7_sheet_17 (by decide) ?_
      try simp only [lcmpE, lcmpL, lcmpG, lcmpLE, lcmpGT, nrm_le, nrm_le64, Classical.not_not] at h1
      try simp only [lcmpE, lcmpL, lcmpG, lcmpLE, lcmpGT, nrm_le, nrm_le64, Classical.not_not] at h2
      exact aw_iret dX7_sheet_19 rfl (kB (Or.inr (Or.inl h2))) (Nat.zero_le _) (Nat.zero_le _)
    · skip
      refine aw_iload_n dX7_sheet_12 rfl ?_
      refine aw_iconst (v := nI 1) dX7_sheet_13 (by decide) ?_
      refine aw_icmp_le (t := 20) dX7_sheet_14 (by decide) (fun h3 => ?_) (fun h3 => ?_)
      · skip
        refine aw_iload_n dX7_sheet_20 rfl ?_
        refine aw_iconst (v := -1) dX7_sheet_21 (by decide) ?_
        refine aw_icmp_ne (t := 29) dX7_sheet_22 (by decide) (fun h4 => ?_) (fun h4 => ?_)
        · skip
          refine aw_iload_n dX7_sheet_29 rfl ?_
          refine aw_istore dX7_sheet_30 (by decide) ?_
          refine aw_lv (lv2 := [.ref _, .int _, .int _, .int _, .int _]) rfl ?_
          refine aw_iload dX7_sheet_32 rfl ?_
          refine aw_bipush (v := nI 12) dX7_sheet_34 (by decide) ?_
          refine aw_icmp_le (t := 42) dX7_sheet_36 (by decide) (fun h5 => ?_) (fun h5 => ?_)
          · skip
            refine aw_iload dX7_sheet_42 rfl ?_
            refine aw_if_ge (t := 50) dX7_sheet_44 (by decide) (fun h6 => ?_) (fun h6 => ?_)
            · skip
              refine aw_aload_n dX7_sheet_50 rfl ?_
              refine aw_getR dX7_sheet_51 flX7_37 hM.o hM.p5 ?_
              refine aw_iload_n dX7_sheet_54 rfl ?_
              refine aw_iload_n dX7_sheet_55 rfl ?_
              refine aw_iload dX7_sheet_56 rfl ?_
              refine aw_pc (pc2 := 58) rfl ?_
              refine aw_cvV (As := [_, _, _]) (d' := d - 1) dX7_sheet_58 lkX7_276 hM.q5.o (by omega) rfl rfl (Nat.le_of_ble_eq_true rfl) ⟨Nat.le_refl _, Nat.le_refl _⟩ (tX5_begin hM.q5 (by omega) (by omega) ?_)
              refine aw_iconst (v := nI 1) dX7_sheet_61 (by decide) ?_
              try simp only [lcmpE, lcmpL, lcmpG, lcmpLE, lcmpGT, nrm_le, nrm_le64, Classical.not_not] at h1
              try simp only [lcmpE, lcmpL, lcmpG, lcmpLE, lcmpGT, nrm_le, nrm_le64, Classical.not_not] at h2
              try simp only [lcmpE, lcmpL, lcmpG, lcmpLE, lcmpGT, nrm_le, nrm_le64, Classical.not_not] at h3
              try simp only [lcmpE, lcmpL, lcmpG, lcmpLE, lcmpGT, nrm_le, nrm_le64, Classical.not_not] at h4
              try simp only [lcmpE, lcmpL, lcmpG, lcmpLE, lcmpGT, nrm_le, nrm_le64, Classical.not_not] at h5
              try simp only [lcmpE, lcmpL, lcmpG, lcmpLE, lcmpGT, nrm_le, nrm_le64, Classical.not_not] at h6
              obtain ⟨j, rfl, j1, j3⟩ := nI_rng (a := 0) h6 h5 (by decide) (by decide)
              exact aw_iret dX7_sheet_62 rfl (hQ s j rfl hs h2 h3 h4 rfl j3) (Nat.zero_le _) (Nat.zero_le _)
            · skip
              refine aw_bipush (v := -14) dX7_sheet_47 (by decide) ?_
              try simp only [lcmpE, lcmpL, lcmpG, lcmpLE, lcmpGT, nrm_le, nrm_le64, Classical.not_not] at h1
              try simp only [lcmpE, lcmpL, lcmpG, lcmpLE, lcmpGT, nrm_le, nrm_le64, Classical.not_not] at h2
              try simp only [lcmpE, lcmpL, lcmpG, lcmpLE, lcmpGT, nrm_le, nrm_le64, Classical.not_not] at h3
              try simp only [lcmpE, lcmpL, lcmpG, lcmpLE, lcmpGT, nrm_le, nrm_le64, Classical.not_not] at h4
              try simp only [lcmpE, lcmpL, lcmpG, lcmpLE, lcmpGT, nrm_le, nrm_le64, Classical.not_not] at h5
              try simp only [lcmpE, lcmpL, lcmpG, lcmpLE, lcmpGT, nrm_le, nrm_le64, Classical.not_not] at h6
              exact aw_iret dX7_sheet_49 rfl (kS h1 h2 h3 h4 h6) (Nat.zero_le _) (Nat.zero_le _)
          · skip
            refine aw_bipush (v := -2) dX7_sheet_39 (by decide) ?_
            try simp only [lcmpE, lcmpL, lcmpG, lcmpLE, lcmpGT, nrm_le, nrm_le64, Classical.not_not] at h1
            try simp only [lcmpE, lcmpL, lcmpG, lcmpLE, lcmpGT, nrm_le, nrm_le64, Classical.not_not] at h2
            try simp only [lcmpE, lcmpL, lcmpG, lcmpLE, lcmpGT, nrm_le, nrm_le64, Classical.not_not] at h3
            try simp only [lcmpE, lcmpL, lcmpG, lcmpLE, lcmpGT, nrm_le, nrm_le64, Classical.not_not] at h4
            try simp only [lcmpE, lcmpL, lcmpG, lcmpLE, lcmpGT, nrm_le, nrm_le64, Classical.not_not] at h5
            exact aw_iret dX7_sheet_41 rfl (kG h1 h2 h3 h4 h5) (Nat.zero_le _) (Nat.zero_le _)
        · skip
          refine aw_iconst (v := nI 0) dX7_sheet_25 (by decide) ?_
          refine aw_goto (t := 30) dX7_sheet_26 (by decide) ?_
          refine aw_istore dX7_sheet_30 (by decide) ?_
          refine aw_lv (lv2 := [.ref _, .int _, .int _, .int _, .int _]) rfl ?_
          refine aw_iload dX7_sheet_32 rfl ?_
          refine aw_bipush (v := nI 12) dX7_sheet_34 (by decide) ?_
          refine aw_leN (t := 42) dX7_sheet_36 (by decide) (by omega) (by omega) (fun h7 => ?_) (fun h7 => absurd h7 (by decide))
          refine aw_iload dX7_sheet_42 rfl ?_
          refine aw_pc (pc2 := 44) rfl ?_
          refine aw_if_ge (t := 50) dX7_sheet_44 (by decide) (fun h8 => ?_) (fun h8 => absurd h8 (by decide))
          refine aw_aload_n dX7_sheet_50 rfl ?_
          refine aw_getR dX7_sheet_51 flX7_37 hM.o hM.p5 ?_
          refine aw_iload_n dX7_sheet_54 rfl ?_
          refine aw_iload_n dX7_sheet_55 rfl ?_
          refine aw_iload dX7_sheet_56 rfl ?_
          refine aw_pc (pc2 := 58) rfl ?_
          refine aw_cvV (As := [_, _, _]) (d' := d - 1) dX7_sheet_58 lkX7_276 hM.q5.o (by omega) rfl rfl (Nat.le_of_ble_eq_true rfl) ⟨Nat.le_refl _, Nat.le_refl _⟩ (tX5_begin hM.q5 (by omega) (by omega) ?_)
          refine aw_iconst (v := nI 1) dX7_sheet_61 (by decide) ?_
          try simp only [lcmpE, lcmpL, lcmpG, lcmpLE, lcmpGT, nrm_le, nrm_le64, Classical.not_not] at h1
          try simp only [lcmpE, lcmpL, lcmpG, lcmpLE, lcmpGT, nrm_le, nrm_le64, Classical.not_not] at h2
          try simp only [lcmpE, lcmpL, lcmpG, lcmpLE, lcmpGT, nrm_le, nrm_le64, Classical.not_not] at h3
          try simp only [lcmpE, lcmpL, lcmpG, lcmpLE, lcmpGT, nrm_le, nrm_le64, Classical.not_not] at h4
          exact aw_iret dX7_sheet_62 rfl (hN s rfl hs h4) (Nat.zero_le _) (Nat.zero_le _)
      · skip
        refine aw_bipush (v := -2) dX7_sheet_17 (by decide) ?_
        try simp only [lcmpE, lcmpL, lcmpG, lcmpLE, lcmpGT, nrm_le, nrm_le64, Classical.not_not] at h1
        try simp only [lcmpE, lcmpL, lcmpG, lcmpLE, lcmpGT, nrm_le, nrm_le64, Classical.not_not] at h2
        try simp only [lcmpE, lcmpL, lcmpG, lcmpLE, lcmpGT, nrm_le, nrm_le64, Classical.not_not] at h3
        exact aw_iret dX7_sheet_19 rfl (kB (Or.inr (Or.inr (h3)))) (Nat.zero_le _) (Nat.zero_le _)
theorem tX7_refusedCell {G : aw_G} {d : Nat} {Ω : aw_O} {I : aw_MI} {J : aw_MJ} {Q : Int32 → aw_O → aw_MI → aw_MJ → Prop} {x y : Int32} (hM : aw_main Ω 0) (hd : 1 ≤ d) (kB : sp_var x 4 = 0 → Q (-2) Ω I J) (kN : ∀ s, x = nI s → s < 4 → I 57 s = -1 → Q (-11) Ω I J) (kP : ∀ s, x = nI s → s < 4 → ¬ I 57 s = -1 → y < 0 ∨ ¬ y < I 58 s → Q (-12) Ω I J) (hQ : ∀ s, x = nI s → s < 4 → ¬ I 57 s = -1 → ¬ y < 0 → y < I 58 s → Q (nI 0) Ω I J) : aw_Call G MX7_refusedCell d 0 0 [.ref (aw_ad G 0), .int x, .int y] Ω I J (aw_QI Q) := by
  refine aw_enter (by decide +kernel) rfl (Nat.le_of_ble_eq_true rfl) ?_
  show AW G MX7_refusedCell (aw_nx Ω) d 0 0 (aw_QI Q) Ω I J 0 0 [.ref (aw_ad G 0), .int x, .int y] 0 []
  refine aw_iload_n dX7_refusedCell_0 rfl ?_
  refine aw_csI (As := [_]) (d' := d - 1) dX7_refusedCell_1 lkX7_223 (by omega) rfl rfl (Nat.le_of_ble_eq_true rfl) ⟨Nat.le_refl _, Nat.le_refl _⟩ (tX7_isSheet ?_)
  refine aw_if_ne (t := 10) dX7_refusedCell_4 (by decide) (fun h1 => ?_) (fun h1 => ?_)
  · skip
    obtain ⟨s, hs, rfl⟩ := sp_var1 h1
    refine aw_aload_n dX7_refusedCell_10 rfl ?_
    refine aw_getR dX7_refusedCell_11 flX7_37 hM.o hM.p5 ?_
    refine aw_getR dX7_refusedCell_14 flX7_233 hM.q5.o hM.q5.p0 ?_
    refine aw_iload_n dX7_refusedCell_17 rfl ?_
    refine aw_iald dX7_refusedCell_18 hM.q5.s0 rfl (by omega) ?_
    refine aw_pc (pc2 := 19) rfl ?_
    refine aw_iconst (v := -1) dX7_refusedCell_19 (by decide) ?_
    refine aw_icmp_ne (t := 26) dX7_refusedCell_20 (by decide) (fun h2 => ?_) (fun h2 => ?_)
    · skip
      refine aw_iload_n dX7_refusedCell_26 rfl ?_
      refine aw_if_lt (t := 43) dX7_refusedCell_27 (by decide) (fun h3 => ?_) (fun h3 => ?_)
      · skip
        refine aw_bipush (v := -12) dX7_refusedCell_43 (by decide) ?_
        refine aw_goto (t := 49) dX7_refusedCell_45 (by decide) ?_
        try simp only [lcmpE, lcmpL, lcmpG, lcmpLE, lcmpGT, nrm_le, nrm_le64, Classical.not_not] at h1
        try simp only [lcmpE, lcmpL, lcmpG, lcmpLE, lcmpGT, nrm_le, nrm_le64, Classical.not_not] at h2
        try simp only [lcmpE, lcmpL, lcmpG, lcmpLE, lcmpGT, nrm_le, nrm_le64, Classical.not_not] at h3
        exact aw_iret dX7_refusedCell_49 rfl (kP s rfl hs h2 (Or.inl h3)) (Nat.zero_le _) (Nat.zero_le _)
      · skip
        refine aw_iload_n dX7_refusedCell_30 rfl ?_
        refine aw_aload_n dX7_refusedCell_31 rfl ?_
        refine aw_getR dX7_refusedCell_32 flX7_37 hM.o hM.p5 ?_
        refine aw_getR dX7_refusedCell_35 flX7_236 hM.q5.o hM.q5.p1 ?_
        refine aw_iload_n dX7_refusedCell_38 rfl ?_
        refine aw_pc (pc2 := 39) rfl ?_
        refine aw_iald dX7_refusedCell_39 hM.q5.s1 rfl (by omega) ?_
        refine aw_icmp_lt (t := 48) dX7_refusedCell_40 (by decide) (fun h4 => ?_) (fun h4 => ?_)
        · skip
          refine aw_iconst (v := nI 0) dX7_refusedCell_48 (by decide) ?_
          try simp only [lcmpE, lcmpL, lcmpG, lcmpLE, lcmpGT, nrm_le, nrm_le64, Classical.not_not] at h1
          try simp only [lcmpE, lcmpL, lcmpG, lcmpLE, lcmpGT, nrm_le, nrm_le64, Classical.not_not] at h2
          try simp only [lcmpE, lcmpL, lcmpG, lcmpLE, lcmpGT, nrm_le, nrm_le64, Classical.not_not] at h3
          try simp only [lcmpE, lcmpL, lcmpG, lcmpLE, lcmpGT, nrm_le, nrm_le64, Classical.not_not] at h4
          exact aw_iret dX7_refusedCell_49 rfl (hQ s rfl hs h2 h3 h4) (Nat.zero_le _) (Nat.zero_le _)
        · skip
          refine aw_bipush (v := -12) dX7_refusedCell_43 (by decide) ?_
          refine aw_goto (t := 49) dX7_refusedCell_45 (by decide) ?_
          try simp only [lcmpE, lcmpL, lcmpG, lcmpLE, lcmpGT, nrm_le, nrm_le64, Classical.not_not] at h1
          try simp only [lcmpE, lcmpL, lcmpG, lcmpLE, lcmpGT, nrm_le, nrm_le64, Classical.not_not] at h2
          try simp only [lcmpE, lcmpL, lcmpG, lcmpLE, lcmpGT, nrm_le, nrm_le64, Classical.not_not] at h3
          try simp only [lcmpE, lcmpL, lcmpG, lcmpLE, lcmpGT, nrm_le, nrm_le64, Classical.not_not] at h4
          exact aw_iret dX7_refusedCell_49 rfl (kP s rfl hs h2 (Or.inr h4)) (Nat.zero_le _) (Nat.zero_le _)
    · skip
      refine aw_bipush (v := -11) dX7_refusedCell_23 (by decide) ?_
      try simp only [lcmpE, lcmpL, lcmpG, lcmpLE, lcmpGT, nrm_le, nrm_le64, Classical.not_not] at h1
      try simp only [lcmpE, lcmpL, lcmpG, lcmpLE, lcmpGT, nrm_le, nrm_le64, Classical.not_not] at h2
      exact aw_iret dX7_refusedCell_25 rfl (kN s rfl hs h2) (Nat.zero_le _) (Nat.zero_le _)
  · skip
    refine aw_bipush (v := -2) dX7_refusedCell_7 (by decide) ?_
    try simp only [lcmpE, lcmpL, lcmpG, lcmpLE, lcmpGT, nrm_le, nrm_le64, Classical.not_not] at h1
    exact aw_iret dX7_refusedCell_9 rfl (kB h1) (Nat.zero_le _) (Nat.zero_le _)
theorem tX7_cell {G : aw_G} {d : Nat} {Ω : aw_O} {I : aw_MI} {J : aw_MJ} {Q : Int32 → aw_O → aw_MI → aw_MJ → Prop} {x y : Int32} {v : Int64} (hM : aw_main Ω 0) (hL : ∀ s, s < 4 → ∃ e, e ≤ 12 ∧ I 58 s = nI e) (hd : 2 ≤ d) (kB : sp_var x 4 = 0 → Q (-2) Ω I J) (kN : ∀ s, x = nI s → s < 4 → I 57 s = -1 → Q (-11) Ω I J) (kP : ∀ s, x = nI s → s < 4 → ¬ I 57 s = -1 → y < 0 ∨ ¬ y < I 58 s → Q (-12) Ω I J) (kM : ∀ s i, x = nI s → s < 4 → ¬ I 57 s = -1 → y = nI i → i < 12 → y < I 58 s → I 57 s = 0 → ¬ v = v.toInt32.toInt64 → Q (-5) Ω I J) (hQ : ∀ s i, x = nI s → s < 4 → ¬ I 57 s = -1 → y = nI i → i < 12 → y < I 58 s → (I 57 s = 0 → v = v.toInt32.toInt64) → Q (nI 1) Ω I (aw_up J 59 (s * 12 + i) v)) : aw_Call G MX7_cell d 0 0 [.ref (aw_ad G 0), .int x, .int y, .long v] Ω I J (aw_QI Q) := by
  refine aw_enter (by decide +kernel) rfl (Nat.le_of_ble_eq_true rfl) ?_
  show AW G MX7_cell (aw_nx Ω) d 0 0 (aw_QI Q) Ω I J 0 0 [.ref (aw_ad G 0), .int x, .int y, .long v, .null, .null] 0 []
  refine aw_aload_n dX7_cell_0 rfl ?_
  refine aw_iload_n dX7_cell_1 rfl ?_
  refine aw_iload_n dX7_cell_2 rfl ?_
  refine aw_cvI (As := [_, _]) (d' := d - 1) dX7_cell_3 lkX7_278 hM.o (by omega) rfl rfl (Nat.le_of_ble_eq_true rfl) ⟨Nat.le_refl _, Nat.le_refl _⟩ (tX7_refusedCell hM (by omega) ?_ ?_ ?_ ?_)
  · skip
    intro k0
    refine aw_istore dX7_cell_6 (by decide) ?_
    refine aw_lv (lv2 := [.ref _, .int _, .int _, .long _, .null, .int _]) rfl ?_
    refine aw_iload dX7_cell_8 rfl ?_
    refine aw_if_ge (t := 16) dX7_cell_10 (by decide) (fun h1 => absurd h1 (by decide)) (fun h1 => ?_)
    refine aw_iload dX7_cell_13 rfl ?_
    exact aw_iret dX7_cell_15 rfl (kB k0) (Nat.zero_le _) (Nat.zero_le _)
  · skip
    intro s e1 hs k0
    refine aw_istore dX7_cell_6 (by decide) ?_
    refine aw_lv (lv2 := [.ref _, .int _, .int _, .long _, .null, .int _]) rfl ?_
    refine aw_iload dX7_cell_8 rfl ?_
    refine aw_if_ge (t := 16) dX7_cell_10 (by decide) (fun h2 => absurd h2 (by decide)) (fun h2 => ?_)
    refine aw_iload dX7_cell_13 rfl ?_
    exact aw_iret dX7_cell_15 rfl (kN s e1 hs k0) (Nat.zero_le _) (Nat.zero_le _)
  · skip
    intro s e1 hs k0 k1
    refine aw_istore dX7_cell_6 (by decide) ?_
    refine aw_lv (lv2 := [.ref _, .int _, .int _, .long _, .null, .int _]) rfl ?_
    refine aw_iload dX7_cell_8 rfl ?_
    refine aw_if_ge (t := 16) dX7_cell_10 (by decide) (fun h3 => absurd h3 (by decide)) (fun h3 => ?_)
    refine aw_iload dX7_cell_13 rfl ?_
    exact aw_iret dX7_cell_15 rfl (kP s e1 hs k0 k1) (Nat.zero_le _) (Nat.zero_le _)
  · skip
    intro s e1 hs k1 k2 k3
    subst e1
    obtain ⟨e, he12, he⟩ := hL s hs
    have k4 := k3
    rw [he] at k4
    obtain ⟨i, hi, rfl⟩ := sp_var1 (sp_var_of k2 k4)
    refine aw_istore dX7_cell_6 (by decide) ?_
    refine aw_lv (lv2 := [.ref _, .int _, .int _, .long _, .null, .int _]) rfl ?_
    refine aw_iload dX7_cell_8 rfl ?_
    refine aw_if_ge (t := 16) dX7_cell_10 (by decide) (fun h4 => ?_) (fun h4 => absurd h4 (by decide))
    refine aw_aload_n dX7_cell_16 rfl ?_
    refine aw_getR dX7_cell_17 flX7_37 hM.o hM.p5 ?_
    refine aw_pc (pc2 := 20) rfl ?_
    refine aw_getR dX7_cell_20 flX7_233 hM.q5.o hM.q5.p0 ?_
    refine aw_iload_n dX7_cell_23 rfl ?_
    refine aw_iald dX7_cell_24 hM.q5.s0 rfl (by omega) ?_
    refine aw_if_ne (t := 39) dX7_cell_25 (by decide) (fun h5 => ?_) (fun h5 => ?_)
    · skip
      refine aw_aload_n dX7_cell_39 rfl ?_
      refine aw_getR dX7_cell_40 flX7_37 hM.o hM.p5 ?_
      refine aw_iload_n dX7_cell_43 rfl ?_
      refine aw_iload_n dX7_cell_44 rfl ?_
      refine aw_lload_n dX7_cell_45 rfl ?_
      refine aw_pc (pc2 := 46) rfl ?_
      refine aw_cvV (As := [_, _, _]) (d' := d - 1) dX7_cell_46 lkX7_281 hM.q5.o (by omega) rfl rfl (Nat.le_of_ble_eq_true rfl) ⟨Nat.le_refl _, Nat.le_refl _⟩ (tX5_put hM.q5 (by omega) (by omega) ?_)
      refine aw_iconst (v := nI 1) dX7_cell_49 (by decide) ?_
      try simp only [lcmpE, lcmpL, lcmpG, lcmpLE, lcmpGT, nrm_le, nrm_le64, Classical.not_not] at h5
      exact aw_iret dX7_cell_50 rfl (hQ s i rfl hs k1 rfl (by omega) k3 (fun q => absurd q h5)) (Nat.zero_le _) (Nat.zero_le _)
    · skip
      refine aw_lload_n dX7_cell_28 rfl ?_
      refine aw_lload_n dX7_cell_29 rfl ?_
      refine aw_l2i dX7_cell_30 ?_
      refine aw_i2l dX7_cell_31 ?_
      refine aw_lcmp dX7_cell_32 ?_
      refine aw_pc (pc2 := 33) rfl ?_
      refine aw_if_eq (t := 39) dX7_cell_33 (by decide) (fun h6 => ?_) (fun h6 => ?_)
      · skip
        refine aw_aload_n dX7_cell_39 rfl ?_
        refine aw_getR dX7_cell_40 flX7_37 hM.o hM.p5 ?_
        refine aw_iload_n dX7_cell_43 rfl ?_
        refine aw_iload_n dX7_cell_44 rfl ?_
        refine aw_lload_n dX7_cell_45 rfl ?_
        refine aw_pc (pc2 := 46) rfl ?_
        refine aw_cvV (As := [_, _, _]) (d' := d - 1) dX7_cell_46 lkX7_281 hM.q5.o (by omega) rfl rfl (Nat.le_of_ble_eq_true rfl) ⟨Nat.le_refl _, Nat.le_refl _⟩ (tX5_put hM.q5 (by omega) (by omega) ?_)
        refine aw_iconst (v := nI 1) dX7_cell_49 (by decide) ?_
        try simp only [lcmpE, lcmpL, lcmpG, lcmpLE, lcmpGT, nrm_le, nrm_le64, Classical.not_not] at h5
        try simp only [lcmpE, lcmpL, lcmpG, lcmpLE, lcmpGT, nrm_le, nrm_le64, Classical.not_not] at h6
        exact aw_iret dX7_cell_50 rfl (hQ s i rfl hs k1 rfl (by omega) k3 (fun _ => h6)) (Nat.zero_le _) (Nat.zero_le _)
      · skip
        refine aw_bipush (v := -5) dX7_cell_36 (by decide) ?_
        try simp only [lcmpE, lcmpL, lcmpG, lcmpLE, lcmpGT, nrm_le, nrm_le64, Classical.not_not] at h5
        try simp only [lcmpE, lcmpL, lcmpG, lcmpLE, lcmpGT, nrm_le, nrm_le64, Classical.not_not] at h6
        exact aw_iret dX7_cell_38 rfl (kM s i rfl hs k1 rfl (by omega) k3 h5 h6) (Nat.zero_le _) (Nat.zero_le _)
theorem tX7_read {G : aw_G} {d : Nat} {Ω : aw_O} {I : aw_MI} {J : aw_MJ} {Q : Int64 → aw_O → aw_MI → aw_MJ → Prop} {x y : Int32} (hM : aw_main Ω 0) (hL : ∀ s, s < 4 → ∃ e, e ≤ 12 ∧ I 58 s = nI e) (hd : 2 ≤ d) (kB : sp_var x 4 = 0 → Q (-4611686018427387904 + (-2 : Int32).toInt64) Ω I J) (kN : ∀ s, x = nI s → s < 4 → I 57 s = -1 → Q (-4611686018427387904 + (-11 : Int32).toInt64) Ω I J) (kP : ∀ s, x = nI s → s < 4 → ¬ I 57 s = -1 → y < 0 ∨ ¬ y < I 58 s → Q (-4611686018427387904 + (-12 : Int32).toInt64) Ω I J) (hQ : ∀ s i, x = nI s → s < 4 → ¬ I 57 s = -1 → y = nI i → i < 12 → y < I 58 s → Q (J 59 (s * 12 + i)) Ω I J) : aw_Call G MX7_read d 0 0 [.ref (aw_ad G 0), .int x, .int y] Ω I J (aw_QL Q) := by
  refine aw_enter (by decide +kernel) rfl (Nat.le_of_ble_eq_true rfl) ?_
  show AW G MX7_read (aw_nx Ω) d 0 0 (aw_QL Q) Ω I J 0 0 [.ref (aw_ad G 0), .int x, .int y, .null] 0 []
  refine aw_aload_n dX7_read_0 rfl ?_
  refine aw_iload_n dX7_read_1 rfl ?_
  refine aw_iload_n dX7_read_2 rfl ?_
  refine aw_cvI (As := [_, _]) (d' := d - 1) dX7_read_3 lkX7_278 hM.o (by omega) rfl rfl (Nat.le_of_ble_eq_true rfl) ⟨Nat.le_refl _, Nat.le_refl _⟩ (tX7_refusedCell hM (by omega) ?_ ?_ ?_ ?_)
  · skip
    intro k0
    refine aw_istore_n dX7_read_6 (by decide) ?_
    refine aw_lv (lv2 := [.ref _, .int _, .int _, .int _]) rfl ?_
    refine aw_iload_n dX7_read_7 rfl ?_
    refine aw_if_ge (t := 20) dX7_read_8 (by decide) (fun h1 => absurd h1 (by decide)) (fun h1 => ?_)
    refine aw_ldc2 (v := -4611686018427387904) dX7_read_11 (aw_pl 502 (by decide +kernel) rfl) ?_
    refine aw_iload_n dX7_read_14 rfl ?_
    refine aw_pc (pc2 := 15) rfl ?_
    refine aw_i2l dX7_read_15 ?_
    refine aw_ladd dX7_read_16 ?_
    refine aw_goto (t := 29) dX7_read_17 (by decide) ?_
    exact aw_lret dX7_read_29 rfl (kB k0) (Nat.zero_le _) (Nat.zero_le _)
  · skip
    intro s e1 hs k0
    refine aw_istore_n dX7_read_6 (by decide) ?_
    refine aw_lv (lv2 := [.ref _, .int _, .int _, .int _]) rfl ?_
    refine aw_iload_n dX7_read_7 rfl ?_
    refine aw_if_ge (t := 20) dX7_read_8 (by decide) (fun h2 => absurd h2 (by decide)) (fun h2 => ?_)
    refine aw_ldc2 (v := -4611686018427387904) dX7_read_11 (aw_pl 502 (by decide +kernel) rfl) ?_
    refine aw_iload_n dX7_read_14 rfl ?_
    refine aw_pc (pc2 := 15) rfl ?_
    refine aw_i2l dX7_read_15 ?_
    refine aw_ladd dX7_read_16 ?_
    refine aw_goto (t := 29) dX7_read_17 (by decide) ?_
    exact aw_lret dX7_read_29 rfl (kN s e1 hs k0) (Nat.zero_le _) (Nat.zero_le _)
  · skip
    intro s e1 hs k0 k1
    refine aw_istore_n dX7_read_6 (by decide) ?_
    refine aw_lv (lv2 := [.ref _, .int _, .int _, .int _]) rfl ?_
    refine aw_iload_n dX7_read_7 rfl ?_
    refine aw_if_ge (t := 20) dX7_read_8 (by decide) (fun h3 => absurd h3 (by decide)) (fun h3 => ?_)
    refine aw_ldc2 (v := -4611686018427387904) dX7_read_11 (aw_pl 502 (by decide +kernel) rfl) ?_
    refine aw_iload_n dX7_read_14 rfl ?_
    refine aw_pc (pc2 := 15) rfl ?_
    refine aw_i2l dX7_read_15 ?_
    refine aw_ladd dX7_read_16 ?_
    refine aw_goto (t := 29) dX7_read_17 (by decide) ?_
    exact aw_lret dX7_read_29 rfl (kP s e1 hs k0 k1) (Nat.zero_le _) (Nat.zero_le _)
  · skip
    intro s e1 hs k1 k2 k3
    subst e1
    obtain ⟨e, he12, he⟩ := hL s hs
    have k4 := k3
    rw [he] at k4
    obtain ⟨i, hi, rfl⟩ := sp_var1 (sp_var_of k2 k4)
    refine aw_istore_n dX7_read_6 (by decide) ?_
    refine aw_lv (lv2 := [.ref _, .int _, .int _, .int _]) rfl ?_
    refine aw_iload_n dX7_read_7 rfl ?_
    refine aw_if_ge (t := 20) dX7_read_8 (by decide) (fun h4 => ?_) (fun h4 => absurd h4 (by decide))
    refine aw_aload_n dX7_read_20 rfl ?_
    refine aw_getR dX7_read_21 flX7_37 hM.o hM.p5 ?_
    refine aw_pc (pc2 := 24) rfl ?_
    refine aw_iload_n dX7_read_24 rfl ?_
    refine aw_iload_n dX7_read_25 rfl ?_
    refine aw_cvL (As := [_, _]) (d' := d - 1) dX7_read_26 lkX7_285 hM.q5.o (by omega) rfl rfl (Nat.le_of_ble_eq_true rfl) ⟨Nat.le_refl _, Nat.le_refl _⟩ (tX5_at hM.q5 (by omega) (by omega) ?_)
    exact aw_lret dX7_read_29 rfl (hQ s i rfl hs k1 rfl (by omega) k3) (Nat.zero_le _) (Nat.zero_le _)
theorem sp_room1 {e : Nat} {i n : Int32} (he : e ≤ 12) (h : ¬ sp_room (nI e) i n = 0) : ∃ j k, i = nI j ∧ n = nI k ∧ j + k ≤ e := by
  unfold sp_room at h
  by_cases h1 : n < 0
  · rw [if_pos h1] at h; exact absurd (by decide) h
  rw [if_neg h1] at h
  by_cases h2 : i < 0
  · rw [if_pos h2] at h; exact absurd (by decide) h
  rw [if_neg h2] at h
  by_cases h3 : nI e < i
  · rw [if_pos h3] at h; exact absurd (by decide) h
  rw [if_neg h3] at h
  by_cases h4 : nI e - i < n
  · rw [if_pos h4] at h; exact absurd (by decide) h
  obtain ⟨j, rfl, -, hj⟩ := nI_rng (a := 0) h2 h3 (by decide) (by omega)
  obtain ⟨k, hk, rfl⟩ := nI_of h1
  refine ⟨j, k, rfl, rfl, ?_⟩
  rw [pk_sub hj] at h4
  have := mt (nI_ltI (by omega) hk).mpr h4
  omega
theorem tX7_copy {G : aw_G} {d : Nat} {Ω : aw_O} {I : aw_MI} {J : aw_MJ} {Q : Int32 → aw_O → aw_MI → aw_MJ → Prop} {x y u w v : Int32} (hM : aw_main Ω 0) (hL : ∀ s, s < 4 → ∃ e, e ≤ 12 ∧ I 58 s = nI e) (hd : 3 ≤ d) (kB : sp_var x 4 = 0 ∨ sp_var u 4 = 0 → Q (-2) Ω I J) (kN : ∀ s t, x = nI s → u = nI t → s < 4 → t < 4 → I 57 s = -1 ∨ I 57 t = -1 → Q (-11) Ω I J) (kK : ∀ s t, x = nI s → u = nI t → s < 4 → t < 4 → ¬ I 57 s = -1 → ¬ I 57 t = -1 → ¬ I 57 s = I 57 t → Q (-13) Ω I J) (kP : ∀ s t, x = nI s → u = nI t → s < 4 → t < 4 → ¬ I 57 s = -1 → ¬ I 57 t = -1 → I 57 s = I 57 t → sp_room (I 58 s) y v = 0 ∨ sp_room (I 58 t) w v = 0 → Q (-12) Ω I J) (hQ : ∀ s i t j k, x = nI s → u = nI t → s < 4 → t < 4 → ¬ I 57 s = -1 → ¬ I 57 t = -1 → I 57 s = I 57 t → y = nI i → w = nI j → v = nI k → (∃ e, I 58 s = nI e ∧ i + k ≤ e ∧ e ≤ 12) → (∃ e, I 58 t = nI e ∧ j + k ≤ e ∧ e ≤ 12) → Q (nI k) Ω I (aw_cp J 59 59 (s * 12 + i) (t * 12 + j) k)) : aw_Call G MX7_copy d 0 0 [.ref (aw_ad G 0), .int x, .int y, .int u, .int w, .int v] Ω I J (aw_QI Q) := by
  refine aw_enter (by decide +kernel) rfl (Nat.le_of_ble_eq_true rfl) ?_
  show AW G MX7_copy (aw_nx Ω) d 0 0 (aw_QI Q) Ω I J 0 0 [.ref (aw_ad G 0), .int x, .int y, .int u, .int w, .int v] 0 []
  refine aw_iload_n dX7_copy_0 rfl ?_
  refine aw_csI (As := [_]) (d' := d - 1) dX7_copy_1 lkX7_223 (by omega) rfl rfl (Nat.le_of_ble_eq_true rfl) ⟨Nat.le_refl _, Nat.le_refl _⟩ (tX7_isSheet ?_)
  refine aw_if_eq (t := 14) dX7_copy_4 (by decide) (fun h1 => ?_) (fun h1 => ?_)
  · skip
    refine aw_bipush (v := -2) dX7_copy_14 (by decide) ?_
    exact aw_iret dX7_copy_16 rfl (kB (Or.inl h1)) (Nat.zero_le _) (Nat.zero_le _)
  · skip
    obtain ⟨s, hs, rfl⟩ := sp_var1 h1
    refine aw_iload_n dX7_copy_7 rfl ?_
    refine aw_csI (As := [_]) (d' := d - 1) dX7_copy_8 lkX7_223 (by omega) rfl rfl (Nat.le_of_ble_eq_true rfl) ⟨Nat.le_refl _, Nat.le_refl _⟩ (tX7_isSheet ?_)
    refine aw_if_ne (t := 17) dX7_copy_11 (by decide) (fun h2 => ?_) (fun h2 => ?_)
    · skip
      obtain ⟨t, ht, rfl⟩ := sp_var1 h2
      refine aw_aload_n dX7_copy_17 rfl ?_
      refine aw_getR dX7_copy_18 flX7_37 hM.o hM.p5 ?_
      refine aw_getR dX7_copy_21 flX7_233 hM.q5.o hM.q5.p0 ?_
      refine aw_iload_n dX7_copy_24 rfl ?_
      refine aw_iald dX7_copy_25 hM.q5.s0 rfl (by omega) ?_
      refine aw_pc (pc2 := 26) rfl ?_
      refine aw_iconst (v := -1) dX7_copy_26 (by decide) ?_
      refine aw_icmp_eq (t := 43) dX7_copy_27 (by decide) (fun h3 => ?_) (fun h3 => ?_)
      · skip
        refine aw_bipush (v := -11) dX7_copy_43 (by decide) ?_
        exact aw_iret dX7_copy_45 rfl (kN s t rfl rfl hs ht (Or.inl h3)) (Nat.zero_le _) (Nat.zero_le _)
      · skip
        refine aw_aload_n dX7_copy_30 rfl ?_
        refine aw_getR dX7_copy_31 flX7_37 hM.o hM.p5 ?_
        refine aw_getR dX7_copy_34 flX7_233 hM.q5.o hM.q5.p0 ?_
        refine aw_iload_n dX7_copy_37 rfl ?_
        refine aw_iald dX7_copy_38 hM.q5.s0 rfl (by omega) ?_
        refine aw_pc (pc2 := 39) rfl ?_
        refine aw_iconst (v := -1) dX7_copy_39 (by decide) ?_
        refine aw_icmp_ne (t := 46) dX7_copy_40 (by decide) (fun h4 => ?_) (fun h4 => ?_)
        · skip
          refine aw_aload_n dX7_copy_46 rfl ?_
          refine aw_getR dX7_copy_47 flX7_37 hM.o hM.p5 ?_
          refine aw_getR dX7_copy_50 flX7_233 hM.q5.o hM.q5.p0 ?_
          refine aw_iload_n dX7_copy_53 rfl ?_
          refine aw_iald dX7_copy_54 hM.q5.s0 rfl (by omega) ?_
          refine aw_pc (pc2 := 55) rfl ?_
          refine aw_aload_n dX7_copy_55 rfl ?_
          refine aw_getR dX7_copy_56 flX7_37 hM.o hM.p5 ?_
          refine aw_getR dX7_copy_59 flX7_233 hM.q5.o hM.q5.p0 ?_
          refine aw_iload_n dX7_copy_62 rfl ?_
          refine aw_iald dX7_copy_63 hM.q5.s0 rfl (by omega) ?_
          refine aw_icmp_eq (t := 70) dX7_copy_64 (by decide) (fun h5 => ?_) (fun h5 => ?_)
          · skip
            refine aw_aload_n dX7_copy_70 rfl ?_
            refine aw_getR dX7_copy_71 flX7_37 hM.o hM.p5 ?_
            refine aw_iload_n dX7_copy_74 rfl ?_
            refine aw_iload_n dX7_copy_75 rfl ?_
            refine aw_iload dX7_copy_76 rfl ?_
            refine aw_pc (pc2 := 78) rfl ?_
            refine aw_cvI (As := [_, _, _]) (d' := d - 1) dX7_copy_78 lkX7_289 hM.q5.o (by omega) rfl rfl (Nat.le_of_ble_eq_true rfl) ⟨Nat.le_refl _, Nat.le_refl _⟩ (tX5_hasRoom hM.q5 (by omega) ?_)
            refine aw_if_eq (t := 99) dX7_copy_81 (by decide) (fun h6 => ?_) (fun h6 => ?_)
            · skip
              refine aw_bipush (v := -12) dX7_copy_99 (by decide) ?_
              exact aw_iret dX7_copy_101 rfl (kP s t rfl rfl hs ht h3 h4 h5 (Or.inl h6)) (Nat.zero_le _) (Nat.zero_le _)
            · skip
              refine aw_aload_n dX7_copy_84 rfl ?_
              refine aw_getR dX7_copy_85 flX7_37 hM.o hM.p5 ?_
              refine aw_iload_n dX7_copy_88 rfl ?_
              refine aw_iload dX7_copy_89 rfl ?_
              refine aw_iload dX7_copy_91 rfl ?_
              refine aw_pc (pc2 := 93) rfl ?_
              refine aw_cvI (As := [_, _, _]) (d' := d - 1) dX7_copy_93 lkX7_289 hM.q5.o (by omega) rfl rfl (Nat.le_of_ble_eq_true rfl) ⟨Nat.le_refl _, Nat.le_refl _⟩ (tX5_hasRoom hM.q5 (by omega) ?_)
              refine aw_if_ne (t := 102) dX7_copy_96 (by decide) (fun h7 => ?_) (fun h7 => ?_)
              · skip
                obtain ⟨e, he12, he⟩ := hL s hs
                obtain ⟨f, hf12, hf⟩ := hL t ht
                rw [he] at h6
                rw [hf] at h7
                obtain ⟨i, k, rfl, rfl, a3⟩ := sp_room1 he12 h6
                obtain ⟨j, k2, rfl, ek, b3⟩ := sp_room1 hf12 h7
                have ek2 : k = k2 := (nI_eq (by omega) (by omega)).mp ek
                subst ek2
                have a4 : i + k ≤ 12 := by omega
                have b4 : j + k ≤ 12 := by omega
                refine aw_aload_n dX7_copy_102 rfl ?_
                refine aw_getR dX7_copy_103 flX7_37 hM.o hM.p5 ?_
                refine aw_iload_n dX7_copy_106 rfl ?_
                refine aw_iload_n dX7_copy_107 rfl ?_
                refine aw_iload_n dX7_copy_108 rfl ?_
                refine aw_pc (pc2 := 109) rfl ?_
                refine aw_iload dX7_copy_109 rfl ?_
                refine aw_iload dX7_copy_111 rfl ?_
                refine aw_cvV (As := [_, _, _, _, _]) (d' := d - 1) dX7_copy_113 lkX7_293 hM.q5.o (by omega) rfl rfl (Nat.le_of_ble_eq_true rfl) ⟨Nat.le_refl _, Nat.le_refl _⟩ (tX5_move hM.q5 (by omega) (by omega) (by omega) (by omega) (by omega) ?_)
                refine aw_iload dX7_copy_116 rfl ?_
                exact aw_iret dX7_copy_118 rfl (hQ s i t j k rfl rfl hs ht h3 h4 h5 rfl rfl rfl ⟨e, he, a3, he12⟩ ⟨f, hf, b3, hf12⟩) (Nat.zero_le _) (Nat.zero_le _)
              · skip
                refine aw_bipush (v := -12) dX7_copy_99 (by decide) ?_
                exact aw_iret dX7_copy_101 rfl (kP s t rfl rfl hs ht h3 h4 h5 (Or.inr h7)) (Nat.zero_le _) (Nat.zero_le _)
          · skip
            refine aw_bipush (v := -13) dX7_copy_67 (by decide) ?_
            exact aw_iret dX7_copy_69 rfl (kK s t rfl rfl hs ht h3 h4 h5) (Nat.zero_le _) (Nat.zero_le _)
        · skip
          refine aw_bipush (v := -11) dX7_copy_43 (by decide) ?_
          exact aw_iret dX7_copy_45 rfl (kN s t rfl rfl hs ht (Or.inr h4)) (Nat.zero_le _) (Nat.zero_le _)
    · skip
      refine aw_bipush (v := -2) dX7_copy_14 (by decide) ?_
      exact aw_iret dX7_copy_16 rfl (kB (Or.inr (h2))) (Nat.zero_le _) (Nat.zero_le _)

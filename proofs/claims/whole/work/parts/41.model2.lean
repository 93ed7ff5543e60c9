/-! THE REFERENCE: the bowl, lines -/
theorem sp_lh1 {x : Int32} {a b : Nat} (h : ¬ sp_lh x a b = 0) (ha : a < 2 ^ 31) (hb : b < 2 ^ 31) : ∃ j, x = nI j ∧ a ≤ j ∧ j ≤ b := by
  unfold sp_lh at h
  by_cases h1 : x < nI a
  · rw [if_pos h1] at h; exact absurd (by decide) h
  · rw [if_neg h1] at h
    by_cases h2 : nI b < x
    · rw [if_pos h2] at h; exact absurd (by decide) h
    · exact nI_rng h1 h2 ha hb
/-- the reference's bends of a round bowl -/
def rp_rd (k : Nat) : Int32 := if k % 4 = 0 then nI 1 else nI 0
theorem rem4 : ∀ k, k < 9 → nI k - nI k / nI 4 * nI 4 = nI (k % 4) := by decide +kernel
theorem rem40 {k : Nat} (h : k < 9) : nI k - nI k / nI 4 * nI 4 = 0 ↔ k % 4 = 0 := by
  rw [rem4 k h]
  exact ⟨fun q => (nI_eq (b := 0) (by omega) (by decide)).mp q, fun q => by rw [q]; rfl⟩
theorem lX8_size2 {G : aw_G} {d : Nat} {Ω : aw_O} {I : aw_MI} {J : aw_MJ} {Q : Int32 → aw_O → aw_MI → aw_MJ → Prop} {n j : Nat} (hM : aw_model Ω 65) (hQ : Q (nI n) Ω (aw_up (aw_up (aw_wr (aw_wr (aw_up I 65 0 (nI j)) 66 0 9 rp_rd) 67 0 3 (fun _ => nI 0)) 65 3 (nI 0)) 65 4 (nI 0)) J) : ∀ (z i : Nat), i ≤ 3 → 3 - i < z → AW G MX8_size (aw_nx Ω) d 0 0 (aw_QI Q) Ω (aw_wr (aw_wr (aw_up I 65 0 (nI j)) 66 0 9 rp_rd) 67 0 i (fun _ => nI 0)) J 0 0 [.ref (aw_ad G 65), .int (nI j), .int (nI n), .int (nI i)] 58 [] := by
  intro z
  induction z with
  | zero =>
    intro i h0 hz
    exact absurd hz (by omega)
  | succ z ih =>
    intro i h0 hz
    refine aw_iload_n dX8_size_58 rfl ?_
    refine aw_iconst (v := nI 3) dX8_size_59 (by decide) ?_
    refine aw_geN (t := 76) dX8_size_60 (by decide) (by omega) (by omega) (fun h1 => ?_) (fun h1 => ?_)
    · skip
      have e1 : i = 3 := by omega
      subst e1
      refine aw_aload_n dX8_size_76 rfl ?_
      refine aw_iconst (v := nI 0) dX8_size_77 (by decide) ?_
      refine aw_putI dX8_size_78 fwX8_93 hM.o rfl ?_
      refine aw_aload_n dX8_size_81 rfl ?_
      refine aw_iconst (v := nI 0) dX8_size_82 (by decide) ?_
      refine aw_pc (pc2 := 83) rfl ?_
      refine aw_putI dX8_size_83 fwX8_88 hM.o rfl ?_
      refine aw_iload_n dX8_size_86 rfl ?_
      exact aw_iret dX8_size_87 rfl (hQ) (Nat.zero_le _) (Nat.zero_le _)
    · skip
      refine aw_aload_n dX8_size_63 rfl ?_
      refine aw_getR dX8_size_64 flX8_17 hM.o hM.p2 ?_
      refine aw_iload_n dX8_size_67 rfl ?_
      refine aw_iconst (v := nI 0) dX8_size_68 (by decide) ?_
      refine aw_iast dX8_size_69 hM.s2 rfl (by omega) rfl ?_
      refine aw_pc (pc2 := 70) rfl ?_
      refine aw_iincN dX8_size_70 rfl (by decide) ?_
      refine aw_lv (lv2 := [.ref _, .int _, .int _, .int _]) rfl ?_
      refine aw_goto (t := 58) dX8_size_73 (by decide) ?_
      refine aw_toM (aw_wr_s0 (aw_wr (aw_up I 65 0 (nI j)) 66 0 9 rp_rd) 67 i (fun _ => nI 0)) rfl ?_
      exact ih (i + 1) (by omega) (by omega)
theorem lX8_size1 {G : aw_G} {d : Nat} {Ω : aw_O} {I : aw_MI} {J : aw_MJ} {Q : Int32 → aw_O → aw_MI → aw_MJ → Prop} {n j : Nat} (hM : aw_model Ω 65) (hQ : Q (nI n) Ω (aw_up (aw_up (aw_wr (aw_wr (aw_up I 65 0 (nI j)) 66 0 9 rp_rd) 67 0 3 (fun _ => nI 0)) 65 3 (nI 0)) 65 4 (nI 0)) J) : ∀ (z i : Nat), i ≤ 9 → 9 - i < z → AW G MX8_size (aw_nx Ω) d 0 0 (aw_QI Q) Ω (aw_wr (aw_up I 65 0 (nI j)) 66 0 i rp_rd) J 0 0 [.ref (aw_ad G 65), .int (nI j), .int (nI n), .int (nI i)] 27 [] := by
  intro z
  induction z with
  | zero =>
    intro i h0 hz
    exact absurd hz (by omega)
  | succ z ih =>
    intro i h0 hz
    refine aw_iload_n dX8_size_27 rfl ?_
    refine aw_bipush (v := nI 9) dX8_size_28 (by decide) ?_
    refine aw_geN (t := 56) dX8_size_30 (by decide) (by omega) (by omega) (fun h1 => ?_) (fun h1 => ?_)
    · skip
      refine aw_iconst (v := nI 0) dX8_size_56 (by decide) ?_
      refine aw_istore_n dX8_size_57 (by decide) ?_
      refine aw_lv (lv2 := [.ref _, .int _, .int _, .int _]) rfl ?_
      have e1 : i = 9 := by omega
      subst e1
      refine aw_toM (aw_wr_0 (aw_wr (aw_up I 65 0 (nI j)) 66 0 9 rp_rd) 67 0 (fun _ => nI 0)) rfl ?_
      exact lX8_size2 hM hQ 4 0 (by omega) (by omega)
    · skip
      refine aw_aload_n dX8_size_33 rfl ?_
      refine aw_getR dX8_size_34 flX8_13 hM.o hM.p1 ?_
      refine aw_iload_n dX8_size_37 rfl ?_
      refine aw_iload_n dX8_size_38 rfl ?_
      refine aw_iconst (v := nI 4) dX8_size_39 (by decide) ?_
      refine aw_pc (pc2 := 40) rfl ?_
      refine aw_irem dX8_size_40 (by decide) ?_
      refine aw_if_ne (t := 48) dX8_size_41 (by decide) (fun h2 => ?_) (fun h2 => ?_)
      · skip
        refine aw_iconst (v := nI 0) dX8_size_48 (by decide) ?_
        refine aw_iast dX8_size_49 hM.s1 rfl (by omega) rfl ?_
        refine aw_iincN dX8_size_50 rfl (by decide) ?_
        refine aw_lv (lv2 := [.ref _, .int _, .int _, .int _]) rfl ?_
        refine aw_goto (t := 27) dX8_size_53 (by decide) ?_
        refine aw_toM (show aw_up _ _ _ _ = (aw_wr (aw_up I 65 0 (nI j)) 66 0 (i + 1) rp_rd) from by rw [show nI 0 = rp_rd i from by unfold rp_rd; rw [if_neg (by first | exact (rem40 (by omega)).mp h2 | exact fun q => h2 ((rem40 (by omega)).mpr q))]]; exact aw_wr_s0 (aw_up I 65 0 (nI j)) 66 i rp_rd) rfl ?_
        exact ih (i + 1) (by omega) (by omega)
      · skip
        refine aw_iconst (v := nI 1) dX8_size_44 (by decide) ?_
        refine aw_goto (t := 49) dX8_size_45 (by decide) ?_
        refine aw_iast dX8_size_49 hM.s1 rfl (by omega) rfl ?_
        refine aw_iincN dX8_size_50 rfl (by decide) ?_
        refine aw_lv (lv2 := [.ref _, .int _, .int _, .int _]) rfl ?_
        refine aw_goto (t := 27) dX8_size_53 (by decide) ?_
        refine aw_toM (show aw_up _ _ _ _ = (aw_wr (aw_up I 65 0 (nI j)) 66 0 (i + 1) rp_rd) from by rw [show nI 1 = rp_rd i from by unfold rp_rd; rw [if_pos (by first | exact (rem40 (by omega)).mp h2 | exact fun q => h2 ((rem40 (by omega)).mpr q))]]; exact aw_wr_s0 (aw_up I 65 0 (nI j)) 66 i rp_rd) rfl ?_
        exact ih (i + 1) (by omega) (by omega)
theorem tX8_size {G : aw_G} {d : Nat} {Ω : aw_O} {I : aw_MI} {J : aw_MJ} {Q : Int32 → aw_O → aw_MI → aw_MJ → Prop} {n : Nat} {x : Int32} (hM : aw_model Ω 65) (hn : I 65 0 = nI n) (hd : 1 ≤ d) (kB : sp_lh x 1 3 = 0 → Q (-2) Ω I J) (hQ : ∀ j, x = nI j → 1 ≤ j → j ≤ 3 → Q (nI n) Ω (aw_up (aw_up (aw_wr (aw_wr (aw_up I 65 0 (nI j)) 66 0 9 rp_rd) 67 0 3 (fun _ => nI 0)) 65 3 (nI 0)) 65 4 (nI 0)) J) : aw_Call G MX8_size d 0 0 [.ref (aw_ad G 65), .int x] Ω I J (aw_QI Q) := by
  refine aw_enter (by decide +kernel) rfl (Nat.le_of_ble_eq_true rfl) ?_
  show AW G MX8_size (aw_nx Ω) d 0 0 (aw_QI Q) Ω I J 0 0 [.ref (aw_ad G 65), .int x, .null, .null] 0 []
  refine aw_iload_n dX8_size_0 rfl ?_
  refine aw_i2l dX8_size_1 ?_
  refine aw_lconst (v := 1) dX8_size_2 (by decide) ?_
  refine aw_ldc2 (v := 3) dX8_size_3 (aw_pl 889 (by decide +kernel) rfl) ?_
  refine aw_csI (As := [_, _, _]) (d' := d - 1) dX8_size_6 lkX8_84 (by omega) rfl rfl (Nat.le_of_ble_eq_true rfl) ⟨Nat.le_refl _, Nat.le_refl _⟩ (tX8_in ?_)
  refine aw_toI (rg_13 x) ?_
  refine aw_pc (pc2 := 9) rfl ?_
  refine aw_if_ne (t := 15) dX8_size_9 (by decide) (fun h1 => ?_) (fun h1 => ?_)
  · skip
    obtain ⟨j, rfl, j1, j3⟩ := sp_lh1 h1 (by decide) (by decide)
    refine aw_aload_n dX8_size_15 rfl ?_
    refine aw_getIv (v := nI n) dX8_size_16 flX8_7 hM.o (by first | exact hn | (simp (disch := omega) only [aw_cp_off, aw_up_off, aw_wr_off, aw_fill_off, aw_fr_off]; exact hn)) ?_
    refine aw_istore_n dX8_size_19 (by decide) ?_
    refine aw_lv (lv2 := [.ref _, .int _, .int _, .null]) rfl ?_
    refine aw_aload_n dX8_size_20 rfl ?_
    refine aw_iload_n dX8_size_21 rfl ?_
    refine aw_pc (pc2 := 22) rfl ?_
    refine aw_putI dX8_size_22 fwX8_7 hM.o rfl ?_
    refine aw_iconst (v := nI 0) dX8_size_25 (by decide) ?_
    refine aw_istore_n dX8_size_26 (by decide) ?_
    refine aw_lv (lv2 := [.ref _, .int _, .int _, .int _]) rfl ?_
    refine aw_toM (aw_wr_0 (aw_up I 65 0 (nI j)) 66 0 rp_rd) rfl ?_
    exact lX8_size1 hM (hQ j rfl j1 j3) 10 0 (by omega) (by omega)
  · skip
    refine aw_bipush (v := -2) dX8_size_12 (by decide) ?_
    exact aw_iret dX8_size_14 rfl (kB h1) (Nat.zero_le _) (Nat.zero_le _)
theorem tX8_bend {G : aw_G} {d : Nat} {Ω : aw_O} {I : aw_MI} {J : aw_MJ} {Q : Int32 → aw_O → aw_MI → aw_MJ → Prop} {n : Nat} {x y v : Int32} (hM : aw_model Ω 65) (hn : I 65 0 = nI n) (hn3 : n ≤ 3) (hd : 2 ≤ d) (kB : sp_var x n = 0 ∨ sp_var y n = 0 ∨ (∃ i j, x = nI i ∧ y = nI j ∧ i < n ∧ j < n ∧ sp_bend (if i = j then nI 1 else nI 0) v = 0) → Q (-2) Ω I J) (hQ : ∀ i j, x = nI i → y = nI j → i < n → j < n → ¬ sp_bend (if i = j then nI 1 else nI 0) v = 0 → Q (I 66 (3 * i + j)) Ω (aw_up (aw_up I 66 (3 * i + j) v) 66 (3 * j + i) v) J) : aw_Call G MX8_bend d 0 0 [.ref (aw_ad G 65), .int x, .int y, .int v] Ω I J (aw_QI Q) := by
  refine aw_enter (by decide +kernel) rfl (Nat.le_of_ble_eq_true rfl) ?_
  show AW G MX8_bend (aw_nx Ω) d 0 0 (aw_QI Q) Ω I J 0 0 [.ref (aw_ad G 65), .int x, .int y, .int v, .null] 0 []
  refine aw_aload_n dX8_bend_0 rfl ?_
  refine aw_iload_n dX8_bend_1 rfl ?_
  refine aw_cvI (As := [_]) (d' := d - 1) dX8_bend_2 lkX8_96 hM.o (by omega) rfl rfl (Nat.le_of_ble_eq_true rfl) ⟨Nat.le_refl _, Nat.le_refl _⟩ (tX8_isVariable hM hn hn3 (by omega) ?_)
  refine aw_if_eq (t := 50) dX8_bend_5 (by decide) (fun h1 => ?_) (fun h1 => ?_)
  · skip
    refine aw_bipush (v := -2) dX8_bend_50 (by decide) ?_
    exact aw_iret dX8_bend_52 rfl (kB (Or.inl h1)) (Nat.zero_le _) (Nat.zero_le _)
  · skip
    have kh1 := h1
    obtain ⟨i, hi, rfl⟩ := sp_var1 h1
    refine aw_aload_n dX8_bend_8 rfl ?_
    refine aw_iload_n dX8_bend_9 rfl ?_
    refine aw_cvI (As := [_]) (d' := d - 1) dX8_bend_10 lkX8_96 hM.o (by omega) rfl rfl (Nat.le_of_ble_eq_true rfl) ⟨Nat.le_refl _, Nat.le_refl _⟩ (tX8_isVariable hM hn hn3 (by omega) ?_)
    refine aw_if_eq (t := 50) dX8_bend_13 (by decide) (fun h2 => ?_) (fun h2 => ?_)
    · skip
      refine aw_bipush (v := -2) dX8_bend_50 (by decide) ?_
      exact aw_iret dX8_bend_52 rfl (kB (Or.inr (Or.inl h2))) (Nat.zero_le _) (Nat.zero_le _)
    · skip
      have kh2 := h2
      obtain ⟨j, hj, rfl⟩ := sp_var1 h2
      refine aw_iload_n dX8_bend_16 rfl ?_
      refine aw_i2l dX8_bend_17 ?_
      refine aw_iload_n dX8_bend_18 rfl ?_
      refine aw_iload_n dX8_bend_19 rfl ?_
      refine aw_neN (t := 27) dX8_bend_20 (by decide) (by omega) (by omega) (fun h3 => ?_) (fun h3 => ?_)
      · skip
        refine aw_ldc2 (v := -9) dX8_bend_27 (aw_pl 901 (by decide +kernel) rfl) ?_
        refine aw_iload_n dX8_bend_30 rfl ?_
        refine aw_iload_n dX8_bend_31 rfl ?_
        refine aw_neN (t := 41) dX8_bend_32 (by decide) (by omega) (by omega) (fun h4 => ?_) (fun h4 => ?_)
        · skip
          refine aw_ldc2 (v := 9) dX8_bend_41 (aw_pl 903 (by decide +kernel) rfl) ?_
          refine aw_csI (As := [_, _, _]) (d' := d - 1) dX8_bend_44 lkX8_84 (by omega) rfl rfl (Nat.le_of_ble_eq_true rfl) ⟨Nat.le_refl _, Nat.le_refl _⟩ (tX8_in ?_)
          refine aw_toI (rg_bd0 v) ?_
          refine aw_if_ne (t := 53) dX8_bend_47 (by decide) (fun h5 => ?_) (fun h5 => ?_)
          · skip
            refine aw_aload_n dX8_bend_53 rfl ?_
            refine aw_getR dX8_bend_54 flX8_13 hM.o hM.p1 ?_
            refine aw_iconst (v := nI 3) dX8_bend_57 (by decide) ?_
            refine aw_iload_n dX8_bend_58 rfl ?_
            refine aw_imulN dX8_bend_59 ?_
            refine aw_pc (pc2 := 60) rfl ?_
            refine aw_iload_n dX8_bend_60 rfl ?_
            refine aw_iaddN dX8_bend_61 ?_
            refine aw_iald dX8_bend_62 hM.s1 rfl (by omega) ?_
            refine aw_istore dX8_bend_63 (by decide) ?_
            refine aw_lv (lv2 := [.ref _, .int _, .int _, .int _, .int _]) rfl ?_
            refine aw_aload_n dX8_bend_65 rfl ?_
            refine aw_getR dX8_bend_66 flX8_13 hM.o hM.p1 ?_
            refine aw_pc (pc2 := 69) rfl ?_
            refine aw_iconst (v := nI 3) dX8_bend_69 (by decide) ?_
            refine aw_iload_n dX8_bend_70 rfl ?_
            refine aw_imulN dX8_bend_71 ?_
            refine aw_iload_n dX8_bend_72 rfl ?_
            refine aw_iaddN dX8_bend_73 ?_
            refine aw_iload_n dX8_bend_74 rfl ?_
            refine aw_pc (pc2 := 75) rfl ?_
            refine aw_iast dX8_bend_75 hM.s1 rfl (by omega) rfl ?_
            refine aw_aload_n dX8_bend_76 rfl ?_
            refine aw_getR dX8_bend_77 flX8_13 hM.o hM.p1 ?_
            refine aw_iconst (v := nI 3) dX8_bend_80 (by decide) ?_
            refine aw_iload_n dX8_bend_81 rfl ?_
            refine aw_imulN dX8_bend_82 ?_
            refine aw_pc (pc2 := 83) rfl ?_
            refine aw_iload_n dX8_bend_83 rfl ?_
            refine aw_iaddN dX8_bend_84 ?_
            refine aw_iload_n dX8_bend_85 rfl ?_
            refine aw_iast dX8_bend_86 hM.s1 rfl (by omega) rfl ?_
            refine aw_iload dX8_bend_87 rfl ?_
            exact aw_iret dX8_bend_89 rfl (hQ i j rfl rfl hi hj (by first | (rw [if_pos h3]; exact h5) | (rw [if_neg h3]; exact h5))) (Nat.zero_le _) (Nat.zero_le _)
          · skip
            refine aw_bipush (v := -2) dX8_bend_50 (by decide) ?_
            exact aw_iret dX8_bend_52 rfl (kB (Or.inr (Or.inr ⟨i, j, rfl, rfl, hi, hj, by first | (rw [if_pos h3]; exact h5) | (rw [if_neg h3]; exact h5)⟩))) (Nat.zero_le _) (Nat.zero_le _)
        · skip
          exact absurd h4 h3
      · skip
        refine aw_lconst (v := 1) dX8_bend_23 (by decide) ?_
        refine aw_goto (t := 30) dX8_bend_24 (by decide) ?_
        refine aw_iload_n dX8_bend_30 rfl ?_
        refine aw_iload_n dX8_bend_31 rfl ?_
        refine aw_neN (t := 41) dX8_bend_32 (by decide) (by omega) (by omega) (fun h6 => ?_) (fun h6 => ?_)
        · skip
          exact absurd h3 h6
        · skip
          refine aw_ldc2 (v := 20) dX8_bend_35 (aw_pl 902 (by decide +kernel) rfl) ?_
          refine aw_goto (t := 44) dX8_bend_38 (by decide) ?_
          refine aw_csI (As := [_, _, _]) (d' := d - 1) dX8_bend_44 lkX8_84 (by omega) rfl rfl (Nat.le_of_ble_eq_true rfl) ⟨Nat.le_refl _, Nat.le_refl _⟩ (tX8_in ?_)
          refine aw_toI (rg_bd1 v) ?_
          refine aw_if_ne (t := 53) dX8_bend_47 (by decide) (fun h7 => ?_) (fun h7 => ?_)
          · skip
            refine aw_aload_n dX8_bend_53 rfl ?_
            refine aw_getR dX8_bend_54 flX8_13 hM.o hM.p1 ?_
            refine aw_iconst (v := nI 3) dX8_bend_57 (by decide) ?_
            refine aw_iload_n dX8_bend_58 rfl ?_
            refine aw_imulN dX8_bend_59 ?_
            refine aw_pc (pc2 := 60) rfl ?_
            refine aw_iload_n dX8_bend_60 rfl ?_
            refine aw_iaddN dX8_bend_61 ?_
            refine aw_iald dX8_bend_62 hM.s1 rfl (by omega) ?_
            refine aw_istore dX8_bend_63 (by decide) ?_
            refine aw_lv (lv2 := [.ref _, .int _, .int _, .int _, .int _]) rfl ?_
            refine aw_aload_n dX8_bend_65 rfl ?_
            refine aw_getR dX8_bend_66 flX8_13 hM.o hM.p1 ?_
            refine aw_pc (pc2 := 69) rfl ?_
            refine aw_iconst (v := nI 3) dX8_bend_69 (by decide) ?_
            refine aw_iload_n dX8_bend_70 rfl ?_
            refine aw_imulN dX8_bend_71 ?_
            refine aw_iload_n dX8_bend_72 rfl ?_
            refine aw_iaddN dX8_bend_73 ?_
            refine aw_iload_n dX8_bend_74 rfl ?_
            refine aw_pc (pc2 := 75) rfl ?_
            refine aw_iast dX8_bend_75 hM.s1 rfl (by omega) rfl ?_
            refine aw_aload_n dX8_bend_76 rfl ?_
            refine aw_getR dX8_bend_77 flX8_13 hM.o hM.p1 ?_
            refine aw_iconst (v := nI 3) dX8_bend_80 (by decide) ?_
            refine aw_iload_n dX8_bend_81 rfl ?_
            refine aw_imulN dX8_bend_82 ?_
            refine aw_pc (pc2 := 83) rfl ?_
            refine aw_iload_n dX8_bend_83 rfl ?_
            refine aw_iaddN dX8_bend_84 ?_
            refine aw_iload_n dX8_bend_85 rfl ?_
            refine aw_iast dX8_bend_86 hM.s1 rfl (by omega) rfl ?_
            refine aw_iload dX8_bend_87 rfl ?_
            exact aw_iret dX8_bend_89 rfl (hQ i j rfl rfl hi hj (by first | (rw [if_pos h3]; exact h7) | (rw [if_neg h3]; exact h7))) (Nat.zero_le _) (Nat.zero_le _)
          · skip
            refine aw_bipush (v := -2) dX8_bend_50 (by decide) ?_
            exact aw_iret dX8_bend_52 rfl (kB (Or.inr (Or.inr ⟨i, j, rfl, rfl, hi, hj, by first | (rw [if_pos h3]; exact h7) | (rw [if_neg h3]; exact h7)⟩))) (Nat.zero_le _) (Nat.zero_le _)
theorem tX8_push {G : aw_G} {d : Nat} {Ω : aw_O} {I : aw_MI} {J : aw_MJ} {Q : Int32 → aw_O → aw_MI → aw_MJ → Prop} {n : Nat} {x v : Int32} (hM : aw_model Ω 65) (hn : I 65 0 = nI n) (hn3 : n ≤ 3) (hd : 2 ≤ d) (kB : sp_var x n = 0 ∨ sp_wi v (nI 99) = 0 → Q (-2) Ω I J) (hQ : ∀ i, x = nI i → i < n → ¬ sp_wi v (nI 99) = 0 → Q (I 67 i) Ω (aw_up I 67 i v) J) : aw_Call G MX8_push d 0 0 [.ref (aw_ad G 65), .int x, .int v] Ω I J (aw_QI Q) := by
  refine aw_enter (by decide +kernel) rfl (Nat.le_of_ble_eq_true rfl) ?_
  show AW G MX8_push (aw_nx Ω) d 0 0 (aw_QI Q) Ω I J 0 0 [.ref (aw_ad G 65), .int x, .int v, .null] 0 []
  refine aw_aload_n dX8_push_0 rfl ?_
  refine aw_iload_n dX8_push_1 rfl ?_
  refine aw_cvI (As := [_]) (d' := d - 1) dX8_push_2 lkX8_96 hM.o (by omega) rfl rfl (Nat.le_of_ble_eq_true rfl) ⟨Nat.le_refl _, Nat.le_refl _⟩ (tX8_isVariable hM hn hn3 (by omega) ?_)
  refine aw_if_eq (t := 22) dX8_push_5 (by decide) (fun h1 => ?_) (fun h1 => ?_)
  · skip
    refine aw_bipush (v := -2) dX8_push_22 (by decide) ?_
    exact aw_iret dX8_push_24 rfl (kB (Or.inl h1)) (Nat.zero_le _) (Nat.zero_le _)
  · skip
    have kh1 := h1
    obtain ⟨i, hi, rfl⟩ := sp_var1 h1
    refine aw_iload_n dX8_push_8 rfl ?_
    refine aw_i2l dX8_push_9 ?_
    refine aw_ldc2 (v := -99) dX8_push_10 (aw_pl 908 (by decide +kernel) rfl) ?_
    refine aw_ldc2 (v := 99) dX8_push_13 (aw_pl 909 (by decide +kernel) rfl) ?_
    refine aw_csI (As := [_, _, _]) (d' := d - 1) dX8_push_16 lkX8_84 (by omega) rfl rfl (Nat.le_of_ble_eq_true rfl) ⟨Nat.le_refl _, Nat.le_refl _⟩ (tX8_in ?_)
    refine aw_toI (rg_99 v) ?_
    refine aw_pc (pc2 := 19) rfl ?_
    refine aw_if_ne (t := 25) dX8_push_19 (by decide) (fun h2 => ?_) (fun h2 => ?_)
    · skip
      refine aw_aload_n dX8_push_25 rfl ?_
      refine aw_getR dX8_push_26 flX8_17 hM.o hM.p2 ?_
      refine aw_iload_n dX8_push_29 rfl ?_
      refine aw_iald dX8_push_30 hM.s2 rfl (by omega) ?_
      refine aw_istore_n dX8_push_31 (by decide) ?_
      refine aw_lv (lv2 := [.ref _, .int _, .int _, .int _]) rfl ?_
      refine aw_pc (pc2 := 32) rfl ?_
      refine aw_aload_n dX8_push_32 rfl ?_
      refine aw_getR dX8_push_33 flX8_17 hM.o hM.p2 ?_
      refine aw_iload_n dX8_push_36 rfl ?_
      refine aw_iload_n dX8_push_37 rfl ?_
      refine aw_iast dX8_push_38 hM.s2 rfl (by omega) rfl ?_
      refine aw_iload_n dX8_push_39 rfl ?_
      refine aw_pc (pc2 := 40) rfl ?_
      exact aw_iret dX8_push_40 rfl (hQ i rfl hi h2) (Nat.zero_le _) (Nat.zero_le _)
    · skip
      refine aw_bipush (v := -2) dX8_push_22 (by decide) ?_
      exact aw_iret dX8_push_24 rfl (kB (Or.inr (h2))) (Nat.zero_le _) (Nat.zero_le _)
theorem tX8_tide {G : aw_G} {d : Nat} {Ω : aw_O} {I : aw_MI} {J : aw_MJ} {Q : Int32 → aw_O → aw_MI → aw_MJ → Prop} {t : Nat} {x : Int32} (hM : aw_model Ω 65) (ht : I 65 3 = nI t) (hd : 1 ≤ d) (kB : sp_lh x 0 40 = 0 → Q (-2) Ω I J) (hQ : ∀ j, x = nI j → j ≤ 40 → Q (nI t) Ω (aw_up I 65 3 (nI j)) J) : aw_Call G MX8_tide d 0 0 [.ref (aw_ad G 65), .int x] Ω I J (aw_QI Q) := by
  refine aw_enter (by decide +kernel) rfl (Nat.le_of_ble_eq_true rfl) ?_
  show AW G MX8_tide (aw_nx Ω) d 0 0 (aw_QI Q) Ω I J 0 0 [.ref (aw_ad G 65), .int x, .null] 0 []
  refine aw_iload_n dX8_tide_0 rfl ?_
  refine aw_i2l dX8_tide_1 ?_
  refine aw_lconst (v := 0) dX8_tide_2 (by decide) ?_
  refine aw_ldc2 (v := 40) dX8_tide_3 (aw_pl 914 (by decide +kernel) rfl) ?_
  refine aw_csI (As := [_, _, _]) (d' := d - 1) dX8_tide_6 lkX8_84 (by omega) rfl rfl (Nat.le_of_ble_eq_true rfl) ⟨Nat.le_refl _, Nat.le_refl _⟩ (tX8_in ?_)
  refine aw_toI (rg_040 x) ?_
  refine aw_pc (pc2 := 9) rfl ?_
  refine aw_if_ne (t := 15) dX8_tide_9 (by decide) (fun h1 => ?_) (fun h1 => ?_)
  · skip
    obtain ⟨j, rfl, j1, j3⟩ := sp_lh1 h1 (by decide) (by decide)
    refine aw_aload_n dX8_tide_15 rfl ?_
    refine aw_getIv (v := nI t) dX8_tide_16 flX8_93 hM.o (by first | exact ht | (simp (disch := omega) only [aw_cp_off, aw_up_off, aw_wr_off, aw_fill_off, aw_fr_off]; exact ht)) ?_
    refine aw_istore_n dX8_tide_19 (by decide) ?_
    refine aw_lv (lv2 := [.ref _, .int _, .int _]) rfl ?_
    refine aw_aload_n dX8_tide_20 rfl ?_
    refine aw_iload_n dX8_tide_21 rfl ?_
    refine aw_pc (pc2 := 22) rfl ?_
    refine aw_putI dX8_tide_22 fwX8_93 hM.o rfl ?_
    refine aw_iload_n dX8_tide_25 rfl ?_
    exact aw_iret dX8_tide_26 rfl (hQ j rfl j3) (Nat.zero_le _) (Nat.zero_le _)
  · skip
    refine aw_bipush (v := -2) dX8_tide_12 (by decide) ?_
    exact aw_iret dX8_tide_14 rfl (kB h1) (Nat.zero_le _) (Nat.zero_le _)
theorem lX8_line {G : aw_G} {d : Nat} {Ω : aw_O} {I : aw_MI} {J : aw_MJ} {Q : Int32 → aw_O → aw_MI → aw_MJ → Prop} {m : Nat} {x y v : Int32} (hM : aw_model Ω 65) (hm : I 65 4 = nI m) (hm6 : m < 6) (hQ : Q (nI m) Ω (aw_up (aw_wr (aw_up (aw_up (aw_up I 68 (6 * m) x) 68 (6 * m + 1) y) 68 (6 * m + 2) v) 68 (6 * m + 3) 3 (fun _ => nI 0)) 65 4 (nI (m + 1))) J) : ∀ (z i : Nat), i ≤ 3 → 3 - i < z → AW G MX8_line (aw_nx Ω) d 0 0 (aw_QI Q) Ω (aw_wr (aw_up (aw_up (aw_up I 68 (6 * m) x) 68 (6 * m + 1) y) 68 (6 * m + 2) v) 68 (6 * m + 3) i (fun _ => nI 0)) J 0 0 [.ref (aw_ad G 65), .int x, .int y, .int v, .int (nI (6 * m)), .int (nI i)] 95 [] := by
  intro z
  induction z with
  | zero =>
    intro i h0 hz
    exact absurd hz (by omega)
  | succ z ih =>
    intro i h0 hz
    refine aw_iload dX8_line_95 rfl ?_
    refine aw_iconst (v := nI 3) dX8_line_97 (by decide) ?_
    refine aw_geN (t := 120) dX8_line_98 (by decide) (by omega) (by omega) (fun h1 => ?_) (fun h1 => ?_)
    · skip
      have e1 : i = 3 := by omega
      subst e1
      refine aw_aload_n dX8_line_120 rfl ?_
      refine aw_dup dX8_line_121 rfl ?_
      refine aw_getIv (v := nI m) dX8_line_122 flX8_88 hM.o (by first | exact hm | (simp (disch := omega) only [aw_cp_off, aw_up_off, aw_wr_off, aw_fill_off, aw_fr_off]; exact hm)) ?_
      refine aw_iconst (v := nI 1) dX8_line_125 (by decide) ?_
      refine aw_iaddN dX8_line_126 ?_
      refine aw_pc (pc2 := 127) rfl ?_
      refine aw_putI dX8_line_127 fwX8_88 hM.o rfl ?_
      refine aw_aload_n dX8_line_130 rfl ?_
      refine aw_getIv (v := nI (m + 1)) dX8_line_131 flX8_88 hM.o (aw_up_self _ _ _ _) ?_
      refine aw_iconst (v := nI 1) dX8_line_134 (by decide) ?_
      refine aw_isubN dX8_line_135 (by omega) ?_
      exact aw_iret dX8_line_136 rfl (hQ) (Nat.zero_le _) (Nat.zero_le _)
    · skip
      refine aw_aload_n dX8_line_101 rfl ?_
      refine aw_getR dX8_line_102 flX8_20 hM.o hM.p5 ?_
      refine aw_iload dX8_line_105 rfl ?_
      refine aw_iconst (v := nI 3) dX8_line_107 (by decide) ?_
      refine aw_iaddN dX8_line_108 ?_
      refine aw_pc (pc2 := 109) rfl ?_
      refine aw_iload dX8_line_109 rfl ?_
      refine aw_iaddN dX8_line_111 ?_
      refine aw_iconst (v := nI 0) dX8_line_112 (by decide) ?_
      refine aw_iast dX8_line_113 hM.s5 rfl (by omega) rfl ?_
      refine aw_iincN dX8_line_114 rfl (by decide) ?_
      refine aw_lv (lv2 := [.ref _, .int _, .int _, .int _, .int _, .int _]) rfl ?_
      refine aw_goto (t := 95) dX8_line_117 (by decide) ?_
      refine aw_toM (aw_wr_s (aw_up (aw_up (aw_up I 68 (6 * m) x) 68 (6 * m + 1) y) 68 (6 * m + 2) v) 68 (6 * m + 3) i (fun _ => nI 0)) rfl ?_
      exact ih (i + 1) (by omega) (by omega)
theorem tX8_line {G : aw_G} {d : Nat} {Ω : aw_O} {I : aw_MI} {J : aw_MJ} {Q : Int32 → aw_O → aw_MI → aw_MJ → Prop} {m : Nat} {x y v : Int32} (hM : aw_model Ω 65) (hm : I 65 4 = nI m) (hm6 : m ≤ 6) (hd : 1 ≤ d) (kB : sp_kind x = 0 ∨ sp_wi y (nI 99) = 0 ∨ sp_wi v (nI 9) = 0 → Q (-2) Ω I J) (kF : ¬ sp_kind x = 0 → ¬ sp_wi y (nI 99) = 0 → ¬ sp_wi v (nI 9) = 0 → m = 6 → Q (-4) Ω I J) (hQ : ¬ sp_kind x = 0 → ¬ sp_wi y (nI 99) = 0 → ¬ sp_wi v (nI 9) = 0 → m < 6 → Q (nI m) Ω (aw_up (aw_wr (aw_up (aw_up (aw_up I 68 (6 * m) x) 68 (6 * m + 1) y) 68 (6 * m + 2) v) 68 (6 * m + 3) 3 (fun _ => nI 0)) 65 4 (nI (m + 1))) J) : aw_Call G MX8_line d 0 0 [.ref (aw_ad G 65), .int x, .int y, .int v] Ω I J (aw_QI Q) := by
  refine aw_enter (by decide +kernel) rfl (Nat.le_of_ble_eq_true rfl) ?_
  show AW G MX8_line (aw_nx Ω) d 0 0 (aw_QI Q) Ω I J 0 0 [.ref (aw_ad G 65), .int x, .int y, .int v, .null, .null] 0 []
  refine aw_iload_n dX8_line_0 rfl ?_
  refine aw_i2l dX8_line_1 ?_
  refine aw_lconst (v := 0) dX8_line_2 (by decide) ?_
  refine aw_ldc2 (v := 4) dX8_line_3 (aw_pl 919 (by decide +kernel) rfl) ?_
  refine aw_csI (As := [_, _, _]) (d' := d - 1) dX8_line_6 lkX8_84 (by omega) rfl rfl (Nat.le_of_ble_eq_true rfl) ⟨Nat.le_refl _, Nat.le_refl _⟩ (tX8_in ?_)
  refine aw_toI (rg_kind x) ?_
  refine aw_pc (pc2 := 9) rfl ?_
  refine aw_if_eq (t := 40) dX8_line_9 (by decide) (fun h1 => ?_) (fun h1 => ?_)
  · skip
    refine aw_bipush (v := -2) dX8_line_40 (by decide) ?_
    exact aw_iret dX8_line_42 rfl (kB (Or.inl h1)) (Nat.zero_le _) (Nat.zero_le _)
  · skip
    refine aw_iload_n dX8_line_12 rfl ?_
    refine aw_i2l dX8_line_13 ?_
    refine aw_ldc2 (v := -99) dX8_line_14 (aw_pl 908 (by decide +kernel) rfl) ?_
    refine aw_ldc2 (v := 99) dX8_line_17 (aw_pl 909 (by decide +kernel) rfl) ?_
    refine aw_csI (As := [_, _, _]) (d' := d - 1) dX8_line_20 lkX8_84 (by omega) rfl rfl (Nat.le_of_ble_eq_true rfl) ⟨Nat.le_refl _, Nat.le_refl _⟩ (tX8_in ?_)
    refine aw_toI (rg_99 y) ?_
    refine aw_pc (pc2 := 23) rfl ?_
    refine aw_if_eq (t := 40) dX8_line_23 (by decide) (fun h2 => ?_) (fun h2 => ?_)
    · skip
      refine aw_bipush (v := -2) dX8_line_40 (by decide) ?_
      exact aw_iret dX8_line_42 rfl (kB (Or.inr (Or.inl h2))) (Nat.zero_le _) (Nat.zero_le _)
    · skip
      refine aw_iload_n dX8_line_26 rfl ?_
      refine aw_i2l dX8_line_27 ?_
      refine aw_ldc2 (v := -9) dX8_line_28 (aw_pl 901 (by decide +kernel) rfl) ?_
      refine aw_ldc2 (v := 9) dX8_line_31 (aw_pl 903 (by decide +kernel) rfl) ?_
      refine aw_csI (As := [_, _, _]) (d' := d - 1) dX8_line_34 lkX8_84 (by omega) rfl rfl (Nat.le_of_ble_eq_true rfl) ⟨Nat.le_refl _, Nat.le_refl _⟩ (tX8_in ?_)
      refine aw_toI (rg_9 v) ?_
      refine aw_pc (pc2 := 37) rfl ?_
      refine aw_if_ne (t := 43) dX8_line_37 (by decide) (fun h3 => ?_) (fun h3 => ?_)
      · skip
        refine aw_aload_n dX8_line_43 rfl ?_
        refine aw_getIv (v := nI m) dX8_line_44 flX8_88 hM.o (by first | exact hm | (simp (disch := omega) only [aw_cp_off, aw_up_off, aw_wr_off, aw_fill_off, aw_fr_off]; exact hm)) ?_
        refine aw_bipush (v := nI 6) dX8_line_47 (by decide) ?_
        refine aw_neN (t := 55) dX8_line_49 (by decide) (by omega) (by omega) (fun h4 => ?_) (fun h4 => ?_)
        · skip
          refine aw_bipush (v := nI 6) dX8_line_55 (by decide) ?_
          refine aw_aload_n dX8_line_57 rfl ?_
          refine aw_getIv (v := nI m) dX8_line_58 flX8_88 hM.o (by first | exact hm | (simp (disch := omega) only [aw_cp_off, aw_up_off, aw_wr_off, aw_fill_off, aw_fr_off]; exact hm)) ?_
          refine aw_imulN dX8_line_61 ?_
          refine aw_istore dX8_line_62 (by decide) ?_
          refine aw_lv (lv2 := [.ref _, .int _, .int _, .int _, .int _, .null]) rfl ?_
          refine aw_pc (pc2 := 64) rfl ?_
          refine aw_aload_n dX8_line_64 rfl ?_
          refine aw_getR dX8_line_65 flX8_20 hM.o hM.p5 ?_
          refine aw_iload dX8_line_68 rfl ?_
          refine aw_iload_n dX8_line_70 rfl ?_
          refine aw_iast dX8_line_71 hM.s5 rfl (by omega) rfl ?_
          refine aw_aload_n dX8_line_72 rfl ?_
          refine aw_pc (pc2 := 73) rfl ?_
          refine aw_getR dX8_line_73 flX8_20 hM.o hM.p5 ?_
          refine aw_iload dX8_line_76 rfl ?_
          refine aw_iconst (v := nI 1) dX8_line_78 (by decide) ?_
          refine aw_iaddN dX8_line_79 ?_
          refine aw_iload_n dX8_line_80 rfl ?_
          refine aw_iast dX8_line_81 hM.s5 rfl (by omega) rfl ?_
          refine aw_pc (pc2 := 82) rfl ?_
          refine aw_aload_n dX8_line_82 rfl ?_
          refine aw_getR dX8_line_83 flX8_20 hM.o hM.p5 ?_
          refine aw_iload dX8_line_86 rfl ?_
          refine aw_iconst (v := nI 2) dX8_line_88 (by decide) ?_
          refine aw_iaddN dX8_line_89 ?_
          refine aw_iload_n dX8_line_90 rfl ?_
          refine aw_pc (pc2 := 91) rfl ?_
          refine aw_iast dX8_line_91 hM.s5 rfl (by omega) rfl ?_
          refine aw_iconst (v := nI 0) dX8_line_92 (by decide) ?_
          refine aw_istore dX8_line_93 (by decide) ?_
          refine aw_lv (lv2 := [.ref _, .int _, .int _, .int _, .int _, .int _]) rfl ?_
          refine aw_toM (aw_wr_0 (aw_up (aw_up (aw_up I 68 (6 * m) x) 68 (6 * m + 1) y) 68 (6 * m + 2) v) 68 (6 * m + 3) (fun _ => nI 0)) rfl ?_
          exact lX8_line hM hm (by omega) (hQ h1 h2 h3 (by omega)) 4 0 (by omega) (by omega)
        · skip
          refine aw_bipush (v := -4) dX8_line_52 (by decide) ?_
          exact aw_iret dX8_line_54 rfl (kF h1 h2 h3 h4) (Nat.zero_le _) (Nat.zero_le _)
      · skip
        refine aw_bipush (v := -2) dX8_line_40 (by decide) ?_
        exact aw_iret dX8_line_42 rfl (kB (Or.inr (Or.inr (h3)))) (Nat.zero_le _) (Nat.zero_le _)
theorem tX8_slope {G : aw_G} {d : Nat} {Ω : aw_O} {I : aw_MI} {J : aw_MJ} {Q : Int32 → aw_O → aw_MI → aw_MJ → Prop} {m : Nat} {x y v : Int32} (hM : aw_model Ω 65) (hm : I 65 4 = nI m) (hm6 : m ≤ 6) (hd : 2 ≤ d) (kB : sp_var x m = 0 ∨ sp_var y 3 = 0 ∨ sp_wi v (nI 9) = 0 → Q (-2) Ω I J) (hQ : ∀ l i, x = nI l → y = nI i → l < m → i < 3 → ¬ sp_wi v (nI 9) = 0 → Q (I 68 (6 * l + 3 + i)) Ω (aw_up I 68 (6 * l + 3 + i) v) J) : aw_Call G MX8_slope d 0 0 [.ref (aw_ad G 65), .int x, .int y, .int v] Ω I J (aw_QI Q) := by
  refine aw_enter (by decide +kernel) rfl (Nat.le_of_ble_eq_true rfl) ?_
  show AW G MX8_slope (aw_nx Ω) d 0 0 (aw_QI Q) Ω I J 0 0 [.ref (aw_ad G 65), .int x, .int y, .int v] 0 []
  refine aw_aload_n dX8_slope_0 rfl ?_
  refine aw_iload_n dX8_slope_1 rfl ?_
  refine aw_cvI (As := [_]) (d' := d - 1) dX8_slope_2 lkX8_114 hM.o (by omega) rfl rfl (Nat.le_of_ble_eq_true rfl) ⟨Nat.le_refl _, Nat.le_refl _⟩ (tX8_isLine hM hm hm6 (by omega) ?_)
  refine aw_if_eq (t := 50) dX8_slope_5 (by decide) (fun h1 => ?_) (fun h1 => ?_)
  · skip
    refine aw_bipush (v := -2) dX8_slope_50 (by decide) ?_
    exact aw_iret dX8_slope_52 rfl (kB (Or.inl h1)) (Nat.zero_le _) (Nat.zero_le _)
  · skip
    have kh1 := h1
    obtain ⟨l, hl, rfl⟩ := sp_var1 h1
    refine aw_iload_n dX8_slope_8 rfl ?_
    refine aw_i2l dX8_slope_9 ?_
    refine aw_lconst (v := 0) dX8_slope_10 (by decide) ?_
    refine aw_ldc2 (v := 2) dX8_slope_11 (aw_pl 928 (by decide +kernel) rfl) ?_
    refine aw_csI (As := [_, _, _]) (d' := d - 1) dX8_slope_14 lkX8_84 (by omega) rfl rfl (Nat.le_of_ble_eq_true rfl) ⟨Nat.le_refl _, Nat.le_refl _⟩ (tX8_in ?_)
    refine aw_toI (rg_2 y) ?_
    refine aw_pc (pc2 := 17) rfl ?_
    refine aw_if_eq (t := 50) dX8_slope_17 (by decide) (fun h2 => ?_) (fun h2 => ?_)
    · skip
      refine aw_bipush (v := -2) dX8_slope_50 (by decide) ?_
      exact aw_iret dX8_slope_52 rfl (kB (Or.inr (Or.inl h2))) (Nat.zero_le _) (Nat.zero_le _)
    · skip
      have kh2 := h2
      obtain ⟨i, hi, rfl⟩ := sp_var1 h2
      refine aw_iload_n dX8_slope_20 rfl ?_
      refine aw_i2l dX8_slope_21 ?_
      refine aw_ldc2 (v := -9) dX8_slope_22 (aw_pl 901 (by decide +kernel) rfl) ?_
      refine aw_ldc2 (v := 9) dX8_slope_25 (aw_pl 903 (by decide +kernel) rfl) ?_
      refine aw_csI (As := [_, _, _]) (d' := d - 1) dX8_slope_28 lkX8_84 (by omega) rfl rfl (Nat.le_of_ble_eq_true rfl) ⟨Nat.le_refl _, Nat.le_refl _⟩ (tX8_in ?_)
      refine aw_toI (rg_9 v) ?_
      refine aw_pc (pc2 := 31) rfl ?_
      refine aw_if_eq (t := 50) dX8_slope_31 (by decide) (fun h3 => ?_) (fun h3 => ?_)
      · skip
        refine aw_bipush (v := -2) dX8_slope_50 (by decide) ?_
        exact aw_iret dX8_slope_52 rfl (kB (Or.inr (Or.inr (h3)))) (Nat.zero_le _) (Nat.zero_le _)
      · skip
        refine aw_aload_n dX8_slope_34 rfl ?_
        refine aw_bipush (v := nI 6) dX8_slope_35 (by decide) ?_
        refine aw_iload_n dX8_slope_37 rfl ?_
        refine aw_imulN dX8_slope_38 ?_
        refine aw_iconst (v := nI 3) dX8_slope_39 (by decide) ?_
        refine aw_pc (pc2 := 40) rfl ?_
        refine aw_iaddN dX8_slope_40 ?_
        refine aw_iload_n dX8_slope_41 rfl ?_
        refine aw_iaddN dX8_slope_42 ?_
        refine aw_iload_n dX8_slope_43 rfl ?_
        refine aw_cvI (As := [_, _]) (d' := d - 1) dX8_slope_44 lkX8_119 hM.o (by omega) rfl rfl (Nat.le_of_ble_eq_true rfl) ⟨Nat.le_refl _, Nat.le_refl _⟩ (tX8_becomes hM (by omega) ?_)
        refine aw_goto (t := 52) dX8_slope_47 (by decide) ?_
        exact aw_iret dX8_slope_52 rfl (hQ l i rfl rfl hl hi h3) (Nat.zero_le _) (Nat.zero_le _)
theorem sp_chg0 {w v : Int32} (h : w = 0) : sp_chg w v = sp_kind v := by
  have h' : w = nI 0 := h
  unfold sp_chg
  rw [if_pos h']
theorem sp_chg1 {w v : Int32} (h : ¬ w = 0) (h1 : w = nI 1) : sp_chg w v = sp_wi v (nI 99) := by
  have h' : ¬ w = nI 0 := h
  unfold sp_chg
  rw [if_neg h', if_pos h1]
theorem sp_chg2e {w v : Int32} (h : ¬ w = 0) (h1 : ¬ w = nI 1) (h2 : w = nI 2) : sp_chg w v = sp_wi v (nI 9) := by
  have h' : ¬ w = nI 0 := h
  unfold sp_chg
  rw [if_neg h', if_neg h1, if_pos h2]
theorem sp_chgN {w v : Int32} (h : ¬ w = 0) (h1 : ¬ w = nI 1) (h2 : ¬ w = nI 2) : sp_chg w v = 0 := by
  have h' : ¬ w = nI 0 := h
  unfold sp_chg
  rw [if_neg h', if_neg h1, if_neg h2]
  rfl
theorem tX8_change {G : aw_G} {d : Nat} {Ω : aw_O} {I : aw_MI} {J : aw_MJ} {Q : Int32 → aw_O → aw_MI → aw_MJ → Prop} {m : Nat} {x y v : Int32} (hM : aw_model Ω 65) (hm : I 65 4 = nI m) (hm6 : m ≤ 6) (hd : 2 ≤ d) (kB : sp_var x m = 0 ∨ sp_chg y v = 0 → Q (-2) Ω I J) (hQ : ∀ l c, x = nI l → l < m → ¬ sp_chg y v = 0 → y = nI c → c < 3 → Q (I 68 (6 * l + c)) Ω (aw_up I 68 (6 * l + c) v) J) : aw_Call G MX8_change d 0 0 [.ref (aw_ad G 65), .int x, .int y, .int v] Ω I J (aw_QI Q) := by
  refine aw_enter (by decide +kernel) rfl (Nat.le_of_ble_eq_true rfl) ?_
  show AW G MX8_change (aw_nx Ω) d 0 0 (aw_QI Q) Ω I J 0 0 [.ref (aw_ad G 65), .int x, .int y, .int v, .null] 0 []
  refine aw_iload_n dX8_change_0 rfl ?_
  refine aw_if_ne (t := 16) dX8_change_1 (by decide) (fun h1 => ?_) (fun h1 => ?_)
  · skip
    refine aw_iload_n dX8_change_16 rfl ?_
    refine aw_iconst (v := nI 1) dX8_change_17 (by decide) ?_
    refine aw_icmp_ne (t := 35) dX8_change_18 (by decide) (fun h2 => ?_) (fun h2 => ?_)
    · skip
      refine aw_iload_n dX8_change_35 rfl ?_
      refine aw_iconst (v := nI 2) dX8_change_36 (by decide) ?_
      refine aw_icmp_ne (t := 58) dX8_change_37 (by decide) (fun h3 => ?_) (fun h3 => ?_)
      · skip
        refine aw_iconst (v := nI 0) dX8_change_58 (by decide) ?_
        refine aw_istore dX8_change_59 (by decide) ?_
        refine aw_lv (lv2 := [.ref _, .int _, .int _, .int _, .int _]) rfl ?_
        refine aw_aload_n dX8_change_61 rfl ?_
        refine aw_iload_n dX8_change_62 rfl ?_
        refine aw_cvI (As := [_]) (d' := d - 1) dX8_change_63 lkX8_114 hM.o (by omega) rfl rfl (Nat.le_of_ble_eq_true rfl) ⟨Nat.le_refl _, Nat.le_refl _⟩ (tX8_isLine hM hm hm6 (by omega) ?_)
        refine aw_pc (pc2 := 66) rfl ?_
        refine aw_if_eq (t := 88) dX8_change_66 (by decide) (fun h4 => ?_) (fun h4 => ?_)
        · skip
          refine aw_bipush (v := -2) dX8_change_88 (by decide) ?_
          exact aw_iret dX8_change_90 rfl (kB (Or.inl h4)) (Nat.zero_le _) (Nat.zero_le _)
        · skip
          obtain ⟨l, hl, rfl⟩ := sp_var1 h4
          refine aw_iload dX8_change_69 rfl ?_
          refine aw_if_eq (t := 88) dX8_change_71 (by decide) (fun h5 => ?_) (fun h5 => absurd h5 (by decide))
          refine aw_bipush (v := -2) dX8_change_88 (by decide) ?_
          exact aw_iret dX8_change_90 rfl (kB (Or.inr (sp_chgN h1 h2 h3))) (Nat.zero_le _) (Nat.zero_le _)
      · skip
        refine aw_iload_n dX8_change_40 rfl ?_
        refine aw_i2l dX8_change_41 ?_
        refine aw_ldc2 (v := -9) dX8_change_42 (aw_pl 901 (by decide +kernel) rfl) ?_
        refine aw_ldc2 (v := 9) dX8_change_45 (aw_pl 903 (by decide +kernel) rfl) ?_
        refine aw_csI (As := [_, _, _]) (d' := d - 1) dX8_change_48 lkX8_84 (by omega) rfl rfl (Nat.le_of_ble_eq_true rfl) ⟨Nat.le_refl _, Nat.le_refl _⟩ (tX8_in ?_)
        refine aw_toI (rg_9 v) ?_
        refine aw_pc (pc2 := 51) rfl ?_
        refine aw_if_eq (t := 58) dX8_change_51 (by decide) (fun h6 => ?_) (fun h6 => ?_)
        · skip
          refine aw_iconst (v := nI 0) dX8_change_58 (by decide) ?_
          refine aw_istore dX8_change_59 (by decide) ?_
          refine aw_lv (lv2 := [.ref _, .int _, .int _, .int _, .int _]) rfl ?_
          refine aw_aload_n dX8_change_61 rfl ?_
          refine aw_iload_n dX8_change_62 rfl ?_
          refine aw_cvI (As := [_]) (d' := d - 1) dX8_change_63 lkX8_114 hM.o (by omega) rfl rfl (Nat.le_of_ble_eq_true rfl) ⟨Nat.le_refl _, Nat.le_refl _⟩ (tX8_isLine hM hm hm6 (by omega) ?_)
          refine aw_pc (pc2 := 66) rfl ?_
          refine aw_if_eq (t := 88) dX8_change_66 (by decide) (fun h7 => ?_) (fun h7 => ?_)
          · skip
            refine aw_bipush (v := -2) dX8_change_88 (by decide) ?_
            exact aw_iret dX8_change_90 rfl (kB (Or.inl h7)) (Nat.zero_le _) (Nat.zero_le _)
          · skip
            obtain ⟨l, hl, rfl⟩ := sp_var1 h7
            have e2 : y = nI 2 := h3
            subst e2
            refine aw_iload dX8_change_69 rfl ?_
            refine aw_if_eq (t := 88) dX8_change_71 (by decide) (fun h8 => ?_) (fun h8 => absurd h8 (by decide))
            refine aw_bipush (v := -2) dX8_change_88 (by decide) ?_
            exact aw_iret dX8_change_90 rfl (kB (Or.inr (by rw [sp_chg2e h1 h2 h3]; exact h6))) (Nat.zero_le _) (Nat.zero_le _)
        · skip
          refine aw_iconst (v := nI 1) dX8_change_54 (by decide) ?_
          refine aw_goto (t := 59) dX8_change_55 (by decide) ?_
          refine aw_istore dX8_change_59 (by decide) ?_
          refine aw_lv (lv2 := [.ref _, .int _, .int _, .int _, .int _]) rfl ?_
          refine aw_aload_n dX8_change_61 rfl ?_
          refine aw_iload_n dX8_change_62 rfl ?_
          refine aw_cvI (As := [_]) (d' := d - 1) dX8_change_63 lkX8_114 hM.o (by omega) rfl rfl (Nat.le_of_ble_eq_true rfl) ⟨Nat.le_refl _, Nat.le_refl _⟩ (tX8_isLine hM hm hm6 (by omega) ?_)
          refine aw_if_eq (t := 88) dX8_change_66 (by decide) (fun h9 => ?_) (fun h9 => ?_)
          · skip
            refine aw_bipush (v := -2) dX8_change_88 (by decide) ?_
            exact aw_iret dX8_change_90 rfl (kB (Or.inl h9)) (Nat.zero_le _) (Nat.zero_le _)
          · skip
            obtain ⟨l, hl, rfl⟩ := sp_var1 h9
            have e2 : y = nI 2 := h3
            subst e2
            refine aw_iload dX8_change_69 rfl ?_
            refine aw_if_eq (t := 88) dX8_change_71 (by decide) (fun h10 => absurd h10 (by decide)) (fun h10 => ?_)
            refine aw_aload_n dX8_change_74 rfl ?_
            refine aw_bipush (v := nI 6) dX8_change_75 (by decide) ?_
            refine aw_iload_n dX8_change_77 rfl ?_
            refine aw_pc (pc2 := 78) rfl ?_
            refine aw_imulN dX8_change_78 ?_
            refine aw_iload_n dX8_change_79 rfl ?_
            refine aw_iaddN dX8_change_80 ?_
            refine aw_iload_n dX8_change_81 rfl ?_
            refine aw_cvI (As := [_, _]) (d' := d - 1) dX8_change_82 lkX8_119 hM.o (by omega) rfl rfl (Nat.le_of_ble_eq_true rfl) ⟨Nat.le_refl _, Nat.le_refl _⟩ (tX8_becomes hM (by omega) ?_)
            refine aw_goto (t := 90) dX8_change_85 (by decide) ?_
            exact aw_iret dX8_change_90 rfl (hQ l 2 rfl hl (by rw [sp_chg2e h1 h2 h3]; exact h6) h3 (by decide)) (Nat.zero_le _) (Nat.zero_le _)
    · skip
      refine aw_iload_n dX8_change_21 rfl ?_
      refine aw_i2l dX8_change_22 ?_
      refine aw_ldc2 (v := -99) dX8_change_23 (aw_pl 908 (by decide +kernel) rfl) ?_
      refine aw_ldc2 (v := 99) dX8_change_26 (aw_pl 909 (by decide +kernel) rfl) ?_
      refine aw_csI (As := [_, _, _]) (d' := d - 1) dX8_change_29 lkX8_84 (by omega) rfl rfl (Nat.le_of_ble_eq_true rfl) ⟨Nat.le_refl _, Nat.le_refl _⟩ (tX8_in ?_)
      refine aw_toI (rg_99 v) ?_
      refine aw_pc (pc2 := 32) rfl ?_
      refine aw_goto (t := 59) dX8_change_32 (by decide) ?_
      refine aw_istore dX8_change_59 (by decide) ?_
      refine aw_lv (lv2 := [.ref _, .int _, .int _, .int _, .int _]) rfl ?_
      refine aw_aload_n dX8_change_61 rfl ?_
      refine aw_iload_n dX8_change_62 rfl ?_
      refine aw_cvI (As := [_]) (d' := d - 1) dX8_change_63 lkX8_114 hM.o (by omega) rfl rfl (Nat.le_of_ble_eq_true rfl) ⟨Nat.le_refl _, Nat.le_refl _⟩ (tX8_isLine hM hm hm6 (by omega) ?_)
      refine aw_if_eq (t := 88) dX8_change_66 (by decide) (fun h11 => ?_) (fun h11 => ?_)
      · skip
        refine aw_bipush (v := -2) dX8_change_88 (by decide) ?_
        exact aw_iret dX8_change_90 rfl (kB (Or.inl h11)) (Nat.zero_le _) (Nat.zero_le _)
      · skip
        obtain ⟨l, hl, rfl⟩ := sp_var1 h11
        refine aw_iload dX8_change_69 rfl ?_
        refine aw_if_eq (t := 88) dX8_change_71 (by decide) (fun h12 => ?_) (fun h12 => ?_)
        · skip
          refine aw_bipush (v := -2) dX8_change_88 (by decide) ?_
          exact aw_iret dX8_change_90 rfl (kB (Or.inr (by rw [sp_chg1 h1 h2]; exact h12))) (Nat.zero_le _) (Nat.zero_le _)
        · skip
          have e2 : y = nI 1 := h2
          subst e2
          refine aw_aload_n dX8_change_74 rfl ?_
          refine aw_bipush (v := nI 6) dX8_change_75 (by decide) ?_
          refine aw_iload_n dX8_change_77 rfl ?_
          refine aw_imulN dX8_change_78 ?_
          refine aw_iload_n dX8_change_79 rfl ?_
          refine aw_pc (pc2 := 80) rfl ?_
          refine aw_iaddN dX8_change_80 ?_
          refine aw_iload_n dX8_change_81 rfl ?_
          refine aw_cvI (As := [_, _]) (d' := d - 1) dX8_change_82 lkX8_119 hM.o (by omega) rfl rfl (Nat.le_of_ble_eq_true rfl) ⟨Nat.le_refl _, Nat.le_refl _⟩ (tX8_becomes hM (by omega) ?_)
          refine aw_goto (t := 90) dX8_change_85 (by decide) ?_
          exact aw_iret dX8_change_90 rfl (hQ l 1 rfl hl (by rw [sp_chg1 h1 h2]; exact h12) h2 (by decide)) (Nat.zero_le _) (Nat.zero_le _)
  · skip
    refine aw_iload_n dX8_change_4 rfl ?_
    refine aw_i2l dX8_change_5 ?_
    refine aw_lconst (v := 0) dX8_change_6 (by decide) ?_
    refine aw_ldc2 (v := 4) dX8_change_7 (aw_pl 919 (by decide +kernel) rfl) ?_
    refine aw_csI (As := [_, _, _]) (d' := d - 1) dX8_change_10 lkX8_84 (by omega) rfl rfl (Nat.le_of_ble_eq_true rfl) ⟨Nat.le_refl _, Nat.le_refl _⟩ (tX8_in ?_)
    refine aw_toI (rg_kind v) ?_
    refine aw_pc (pc2 := 13) rfl ?_
    refine aw_goto (t := 59) dX8_change_13 (by decide) ?_
    refine aw_istore dX8_change_59 (by decide) ?_
    refine aw_lv (lv2 := [.ref _, .int _, .int _, .int _, .int _]) rfl ?_
    refine aw_aload_n dX8_change_61 rfl ?_
    refine aw_iload_n dX8_change_62 rfl ?_
    refine aw_cvI (As := [_]) (d' := d - 1) dX8_change_63 lkX8_114 hM.o (by omega) rfl rfl (Nat.le_of_ble_eq_true rfl) ⟨Nat.le_refl _, Nat.le_refl _⟩ (tX8_isLine hM hm hm6 (by omega) ?_)
    refine aw_if_eq (t := 88) dX8_change_66 (by decide) (fun h13 => ?_) (fun h13 => ?_)
    · skip
      refine aw_bipush (v := -2) dX8_change_88 (by decide) ?_
      exact aw_iret dX8_change_90 rfl (kB (Or.inl h13)) (Nat.zero_le _) (Nat.zero_le _)
    · skip
      obtain ⟨l, hl, rfl⟩ := sp_var1 h13
      refine aw_iload dX8_change_69 rfl ?_
      refine aw_if_eq (t := 88) dX8_change_71 (by decide) (fun h14 => ?_) (fun h14 => ?_)
      · skip
        refine aw_bipush (v := -2) dX8_change_88 (by decide) ?_
        exact aw_iret dX8_change_90 rfl (kB (Or.inr (by rw [sp_chg0 h1]; exact h14))) (Nat.zero_le _) (Nat.zero_le _)
      · skip
        have e2 : y = nI 0 := h1
        subst e2
        refine aw_aload_n dX8_change_74 rfl ?_
        refine aw_bipush (v := nI 6) dX8_change_75 (by decide) ?_
        refine aw_iload_n dX8_change_77 rfl ?_
        refine aw_imulN dX8_change_78 ?_
        refine aw_iload_n dX8_change_79 rfl ?_
        refine aw_pc (pc2 := 80) rfl ?_
        refine aw_iaddN dX8_change_80 ?_
        refine aw_iload_n dX8_change_81 rfl ?_
        refine aw_cvI (As := [_, _]) (d' := d - 1) dX8_change_82 lkX8_119 hM.o (by omega) rfl rfl (Nat.le_of_ble_eq_true rfl) ⟨Nat.le_refl _, Nat.le_refl _⟩ (tX8_becomes hM (by omega) ?_)
        refine aw_goto (t := 90) dX8_change_85 (by decide) ?_
        exact aw_iret dX8_change_90 rfl (hQ l 0 rfl hl (by rw [sp_chg0 h1]; exact h14) h1 (by decide)) (Nat.zero_le _) (Nat.zero_le _)

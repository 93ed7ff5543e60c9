/-! THE REFERENCE: sheets, an image, count -/
def sp_srt (y : Int32) : Int32 := if y < -1 then nI 0 else if nI 1 < y then nI 0 else nI 1
theorem rg_srt (x : Int32) : sp_rng x.toInt64 (-1) 1 = sp_srt x := rg_w x (-1) (nI 1)
theorem tX8_isSheet {G : aw_G} {d : Nat} {Ω : aw_O} {I : aw_MI} {J : aw_MJ} {Q : Int32 → aw_O → aw_MI → aw_MJ → Prop} {x : Int32} (hd : 1 ≤ d) (hQ : Q (sp_var x 4) Ω I J) : aw_Call G MX8_isSheet d 0 0 [.int x] Ω I J (aw_QI Q) := by
  refine aw_enter (by decide +kernel) rfl (Nat.le_of_ble_eq_true rfl) ?_
  show AW G MX8_isSheet (aw_nx Ω) d 0 0 (aw_QI Q) Ω I J 0 0 [.int x] 0 []
  refine aw_iload_n dX8_isSheet_0 rfl ?_
  refine aw_i2l dX8_isSheet_1 ?_
  refine aw_lconst (v := 0) dX8_isSheet_2 (by decide) ?_
  refine aw_ldc2 (v := 3) dX8_isSheet_3 (aw_pl 889 (by decide +kernel) rfl) ?_
  refine aw_csI (As := [_, _, _]) (d' := d - 1) dX8_isSheet_6 lkX8_84 (by omega) rfl rfl (Nat.le_of_ble_eq_true rfl) ⟨Nat.le_refl _, Nat.le_refl _⟩ (tX8_in ?_)
  refine aw_toI (rg_3 x) ?_
  refine aw_pc (pc2 := 9) rfl ?_
  exact aw_zret dX8_isSheet_9 rfl (sp_var01 _ _) hQ (Nat.zero_le _) (Nat.zero_le _)
theorem lX8_becomesRow {G : aw_G} {d : Nat} {Ω : aw_O} {I : aw_MI} {J : aw_MJ} {Q : aw_O → aw_MI → aw_MJ → Prop} {s : Nat} {u v : Int32} (hM : aw_model Ω 65) (hs : s < 4) (hQ : Q Ω I (aw_fr J 83 (12 * s) 12 0)) : ∀ (z i : Nat), i ≤ 12 → 12 - i < z → AW G MX8_becomesRow (aw_nx Ω) d 0 0 (aw_QV Q) Ω I (aw_fr J 83 (12 * s) i 0) 0 0 [.ref (aw_ad G 65), .int (nI s), .int u, .int v, .int (nI i)] 25 [] := by
  intro z
  induction z with
  | zero =>
    intro i h0 hz
    exact absurd hz (by omega)
  | succ z ih =>
    intro i h0 hz
    refine aw_iload dX8_becomesRow_25 rfl ?_
    refine aw_bipush (v := nI 12) dX8_becomesRow_27 (by decide) ?_
    refine aw_geN (t := 51) dX8_becomesRow_29 (by decide) (by omega) (by omega) (fun h1 => ?_) (fun h1 => ?_)
    · skip
      exact aw_vret dX8_becomesRow_51 rfl ((by rw [show i = 12 from by omega]; exact hQ)) (Nat.zero_le _) (Nat.zero_le _)
    · skip
      refine aw_aload_n dX8_becomesRow_32 rfl ?_
      refine aw_getR dX8_becomesRow_33 flX8_66 hM.o hM.p32 ?_
      refine aw_bipush (v := nI 12) dX8_becomesRow_36 (by decide) ?_
      refine aw_iload_n dX8_becomesRow_38 rfl ?_
      refine aw_imulN dX8_becomesRow_39 ?_
      refine aw_pc (pc2 := 40) rfl ?_
      refine aw_iload dX8_becomesRow_40 rfl ?_
      refine aw_iaddN dX8_becomesRow_42 ?_
      refine aw_lconst (v := 0) dX8_becomesRow_43 (by decide) ?_
      refine aw_last dX8_becomesRow_44 hM.s32 rfl (by omega) rfl ?_
      refine aw_iincN dX8_becomesRow_45 rfl (by decide) ?_
      refine aw_lv (lv2 := [.ref _, .int _, .int _, .int _, .int _]) rfl ?_
      refine aw_goto (t := 25) dX8_becomesRow_48 (by decide) ?_
      refine aw_toM rfl (aw_fr_s J 83 (12 * s) i 0) ?_
      exact ih (i + 1) (by omega) (by omega)
theorem tX8_becomesRow {G : aw_G} {d : Nat} {Ω : aw_O} {I : aw_MI} {J : aw_MJ} {Q : aw_O → aw_MI → aw_MJ → Prop} {s : Nat} {u v : Int32} (hM : aw_model Ω 65) (hs : s < 4) (hQ : Q Ω (aw_up (aw_up I 81 s u) 82 s (if u < 0 then nI 0 else v)) (aw_fr J 83 (12 * s) 12 0)) : aw_Call G MX8_becomesRow d 0 0 [.ref (aw_ad G 65), .int (nI s), .int u, .int v] Ω I J (aw_QV Q) := by
  refine aw_enter (by decide +kernel) rfl (Nat.le_of_ble_eq_true rfl) ?_
  show AW G MX8_becomesRow (aw_nx Ω) d 0 0 (aw_QV Q) Ω I J 0 0 [.ref (aw_ad G 65), .int (nI s), .int u, .int v, .null] 0 []
  refine aw_aload_n dX8_becomesRow_0 rfl ?_
  refine aw_getR dX8_becomesRow_1 flX8_60 hM.o hM.p30 ?_
  refine aw_iload_n dX8_becomesRow_4 rfl ?_
  refine aw_iload_n dX8_becomesRow_5 rfl ?_
  refine aw_iast dX8_becomesRow_6 hM.s30 rfl (by omega) rfl ?_
  refine aw_pc (pc2 := 7) rfl ?_
  refine aw_aload_n dX8_becomesRow_7 rfl ?_
  refine aw_getR dX8_becomesRow_8 flX8_63 hM.o hM.p31 ?_
  refine aw_iload_n dX8_becomesRow_11 rfl ?_
  refine aw_iload_n dX8_becomesRow_12 rfl ?_
  refine aw_if_ge (t := 20) dX8_becomesRow_13 (by decide) (fun h1 => ?_) (fun h1 => ?_)
  · skip
    refine aw_iload_n dX8_becomesRow_20 rfl ?_
    refine aw_iast dX8_becomesRow_21 hM.s31 rfl (by omega) rfl ?_
    refine aw_iconst (v := nI 0) dX8_becomesRow_22 (by decide) ?_
    refine aw_istore dX8_becomesRow_23 (by decide) ?_
    refine aw_lv (lv2 := [.ref _, .int _, .int _, .int _, .int _]) rfl ?_
    try simp only [lcmpE, lcmpL, lcmpG, lcmpLE, lcmpGT, nrm_le, nrm_le64, Classical.not_not] at h1
    rw [if_neg h1] at hQ
    refine aw_toM rfl (aw_fr_0 J 83 (12 * s) 0) ?_
    exact lX8_becomesRow hM hs hQ 13 0 (by omega) (by omega)
  · skip
    refine aw_iconst (v := nI 0) dX8_becomesRow_16 (by decide) ?_
    refine aw_goto (t := 21) dX8_becomesRow_17 (by decide) ?_
    refine aw_iast dX8_becomesRow_21 hM.s31 rfl (by omega) rfl ?_
    refine aw_iconst (v := nI 0) dX8_becomesRow_22 (by decide) ?_
    refine aw_istore dX8_becomesRow_23 (by decide) ?_
    refine aw_lv (lv2 := [.ref _, .int _, .int _, .int _, .int _]) rfl ?_
    try simp only [lcmpE, lcmpL, lcmpG, lcmpLE, lcmpGT, nrm_le, nrm_le64, Classical.not_not] at h1
    rw [if_pos h1] at hQ
    refine aw_toM rfl (aw_fr_0 J 83 (12 * s) 0) ?_
    exact lX8_becomesRow hM hs hQ 13 0 (by omega) (by omega)
theorem tX8_sheet {G : aw_G} {d : Nat} {Ω : aw_O} {I : aw_MI} {J : aw_MJ} {Q : Int32 → aw_O → aw_MI → aw_MJ → Prop} {x y v : Int32} (hM : aw_model Ω 65) (hd : 2 ≤ d) (kB : sp_var x 4 = 0 ∨ sp_srt y = 0 → Q (-2) Ω I J) (kG : ∀ s, x = nI s → s < 4 → ¬ sp_srt y = 0 → ¬ y < 0 → nI 12 < v → Q (-2) Ω I J) (kS : ∀ s, x = nI s → s < 4 → ¬ sp_srt y = 0 → ¬ y < 0 → v < 0 → Q (-14) Ω I J) (hQ : ∀ s, x = nI s → s < 4 → ¬ sp_srt y = 0 → (y < 0 ∨ (¬ nI 12 < v ∧ ¬ v < 0)) → Q (nI 1) Ω (aw_up (aw_up I 81 s y) 82 s (if y < 0 then nI 0 else v)) (aw_fr J 83 (12 * s) 12 0)) : aw_Call G MX8_sheet d 0 0 [.ref (aw_ad G 65), .int x, .int y, .int v] Ω I J (aw_QI Q) := by
  refine aw_enter (by decide +kernel) rfl (Nat.le_of_ble_eq_true rfl) ?_
  show AW G MX8_sheet (aw_nx Ω) d 0 0 (aw_QI Q) Ω I J 0 0 [.ref (aw_ad G 65), .int x, .int y, .int v] 0 []
  refine aw_iload_n dX8_sheet_0 rfl ?_
  refine aw_csI (As := [_]) (d' := d - 1) dX8_sheet_1 lkX8_251 (by omega) rfl rfl (Nat.le_of_ble_eq_true rfl) ⟨Nat.le_refl _, Nat.le_refl _⟩ (tX8_isSheet (by omega) ?_)
  refine aw_if_eq (t := 29) dX8_sheet_4 (by decide) (fun h1 => ?_) (fun h1 => ?_)
  · skip
    refine aw_bipush (v := -2) dX8_sheet_29 (by decide) ?_
    try simp only [lcmpE, lcmpL, lcmpG, lcmpLE, lcmpGT, nrm_le, nrm_le64, Classical.not_not] at h1
    exact aw_iret dX8_sheet_31 rfl (kB (Or.inl h1)) (Nat.zero_le _) (Nat.zero_le _)
  · skip
    obtain ⟨s, hs, rfl⟩ := sp_var1 h1
    refine aw_iload_n dX8_sheet_7 rfl ?_
    refine aw_i2l dX8_sheet_8 ?_
    refine aw_ldc2 (v := -1) dX8_sheet_9 (aw_pl 1176 (by decide +kernel) rfl) ?_
    refine aw_lconst (v := 1) dX8_sheet_12 (by decide) ?_
    refine aw_csI (As := [_, _, _]) (d' := d - 1) dX8_sheet_13 lkX8_84 (by omega) rfl rfl (Nat.le_of_ble_eq_true rfl) ⟨Nat.le_refl _, Nat.le_refl _⟩ (tX8_in ?_)
    refine aw_toI (rg_srt y) ?_
    refine aw_pc (pc2 := 16) rfl ?_
    refine aw_if_eq (t := 29) dX8_sheet_16 (by decide) (fun h2 => ?_) (fun h2 => ?_)
    · skip
      refine aw_bipush (v := -2) dX8_sheet_29 (by decide) ?_
      try simp only [lcmpE, lcmpL, lcmpG, lcmpLE, lcmpGT, nrm_le, nrm_le64, Classical.not_not] at h1
      try simp only [lcmpE, lcmpL, lcmpG, lcmpLE, lcmpGT, nrm_le, nrm_le64, Classical.not_not] at h2
      exact aw_iret dX8_sheet_31 rfl (kB (Or.inr h2)) (Nat.zero_le _) (Nat.zero_le _)
    · skip
      refine aw_iload_n dX8_sheet_19 rfl ?_
      refine aw_if_lt (t := 32) dX8_sheet_20 (by decide) (fun h3 => ?_) (fun h3 => ?_)
      · skip
        refine aw_iload_n dX8_sheet_32 rfl ?_
        refine aw_if_lt (t := 43) dX8_sheet_33 (by decide) (fun h4 => ?_) (fun h4 => ?_)
        · skip
          refine aw_aload_n dX8_sheet_43 rfl ?_
          refine aw_iload_n dX8_sheet_44 rfl ?_
          refine aw_iload_n dX8_sheet_45 rfl ?_
          refine aw_iload_n dX8_sheet_46 rfl ?_
          refine aw_cvV (As := [_, _, _]) (d' := d - 1) dX8_sheet_47 lkX8_254 hM.o (by omega) rfl rfl (Nat.le_of_ble_eq_true rfl) ⟨Nat.le_refl _, Nat.le_refl _⟩ (tX8_becomesRow hM hs ?_)
          refine aw_pc (pc2 := 50) rfl ?_
          refine aw_iconst (v := nI 1) dX8_sheet_50 (by decide) ?_
          try simp only [lcmpE, lcmpL, lcmpG, lcmpLE, lcmpGT, nrm_le, nrm_le64, Classical.not_not] at h1
          try simp only [lcmpE, lcmpL, lcmpG, lcmpLE, lcmpGT, nrm_le, nrm_le64, Classical.not_not] at h2
          try simp only [lcmpE, lcmpL, lcmpG, lcmpLE, lcmpGT, nrm_le, nrm_le64, Classical.not_not] at h3
          try simp only [lcmpE, lcmpL, lcmpG, lcmpLE, lcmpGT, nrm_le, nrm_le64, Classical.not_not] at h4
          exact aw_iret dX8_sheet_51 rfl (hQ s rfl hs h2 (Or.inl h3)) (Nat.zero_le _) (Nat.zero_le _)
        · skip
          exact absurd h3 h4
      · skip
        refine aw_iload_n dX8_sheet_23 rfl ?_
        refine aw_bipush (v := nI 12) dX8_sheet_24 (by decide) ?_
        refine aw_icmp_le (t := 32) dX8_sheet_26 (by decide) (fun h5 => ?_) (fun h5 => ?_)
        · skip
          refine aw_iload_n dX8_sheet_32 rfl ?_
          refine aw_if_lt (t := 43) dX8_sheet_33 (by decide) (fun h6 => ?_) (fun h6 => ?_)
          · skip
            exact absurd h6 h3
          · skip
            refine aw_iload_n dX8_sheet_36 rfl ?_
            refine aw_if_ge (t := 43) dX8_sheet_37 (by decide) (fun h7 => ?_) (fun h7 => ?_)
            · skip
              refine aw_aload_n dX8_sheet_43 rfl ?_
              refine aw_iload_n dX8_sheet_44 rfl ?_
              refine aw_iload_n dX8_sheet_45 rfl ?_
              refine aw_iload_n dX8_sheet_46 rfl ?_
              refine aw_cvV (As := [_, _, _]) (d' := d - 1) dX8_sheet_47 lkX8_254 hM.o (by omega) rfl rfl (Nat.le_of_ble_eq_true rfl) ⟨Nat.le_refl _, Nat.le_refl _⟩ (tX8_becomesRow hM hs ?_)
              refine aw_pc (pc2 := 50) rfl ?_
              refine aw_iconst (v := nI 1) dX8_sheet_50 (by decide) ?_
              try simp only [lcmpE, lcmpL, lcmpG, lcmpLE, lcmpGT, nrm_le, nrm_le64, Classical.not_not] at h1
              try simp only [lcmpE, lcmpL, lcmpG, lcmpLE, lcmpGT, nrm_le, nrm_le64, Classical.not_not] at h2
              try simp only [lcmpE, lcmpL, lcmpG, lcmpLE, lcmpGT, nrm_le, nrm_le64, Classical.not_not] at h3
              try simp only [lcmpE, lcmpL, lcmpG, lcmpLE, lcmpGT, nrm_le, nrm_le64, Classical.not_not] at h5
              try simp only [lcmpE, lcmpL, lcmpG, lcmpLE, lcmpGT, nrm_le, nrm_le64, Classical.not_not] at h6
              try simp only [lcmpE, lcmpL, lcmpG, lcmpLE, lcmpGT, nrm_le, nrm_le64, Classical.not_not] at h7
              exact aw_iret dX8_sheet_51 rfl (hQ s rfl hs h2 (Or.inr ⟨h5, h7⟩)) (Nat.zero_le _) (Nat.zero_le _)
            · skip
              refine aw_bipush (v := -14) dX8_sheet_40 (by decide) ?_
              try simp only [lcmpE, lcmpL, lcmpG, lcmpLE, lcmpGT, nrm_le, nrm_le64, Classical.not_not] at h1
              try simp only [lcmpE, lcmpL, lcmpG, lcmpLE, lcmpGT, nrm_le, nrm_le64, Classical.not_not] at h2
              try simp only [lcmpE, lcmpL, lcmpG, lcmpLE, lcmpGT, nrm_le, nrm_le64, Classical.not_not] at h3
              try simp only [lcmpE, lcmpL, lcmpG, lcmpLE, lcmpGT, nrm_le, nrm_le64, Classical.not_not] at h5
              try simp only [lcmpE, lcmpL, lcmpG, lcmpLE, lcmpGT, nrm_le, nrm_le64, Classical.not_not] at h6
              try simp only [lcmpE, lcmpL, lcmpG, lcmpLE, lcmpGT, nrm_le, nrm_le64, Classical.not_not] at h7
              exact aw_iret dX8_sheet_42 rfl (kS s rfl hs h2 h6 h7) (Nat.zero_le _) (Nat.zero_le _)
        · skip
          refine aw_bipush (v := -2) dX8_sheet_29 (by decide) ?_
          try simp only [lcmpE, lcmpL, lcmpG, lcmpLE, lcmpGT, nrm_le, nrm_le64, Classical.not_not] at h1
          try simp only [lcmpE, lcmpL, lcmpG, lcmpLE, lcmpGT, nrm_le, nrm_le64, Classical.not_not] at h2
          try simp only [lcmpE, lcmpL, lcmpG, lcmpLE, lcmpGT, nrm_le, nrm_le64, Classical.not_not] at h3
          try simp only [lcmpE, lcmpL, lcmpG, lcmpLE, lcmpGT, nrm_le, nrm_le64, Classical.not_not] at h5
          exact aw_iret dX8_sheet_31 rfl (kG s rfl hs h2 h3 h5) (Nat.zero_le _) (Nat.zero_le _)
theorem tX8_wrong {G : aw_G} {d : Nat} {Ω : aw_O} {I : aw_MI} {J : aw_MJ} {Q : Int32 → aw_O → aw_MI → aw_MJ → Prop} {x y : Int32} (hM : aw_model Ω 65) (hL : ∀ s, s < 4 → ∃ e, e ≤ 12 ∧ I 82 s = nI e) (hd : 2 ≤ d) (kB : sp_var x 4 = 0 → Q (-2) Ω I J) (kN : ∀ s, x = nI s → s < 4 → I 81 s < 0 → Q (-11) Ω I J) (kP : ∀ s e, x = nI s → s < 4 → ¬ I 81 s < 0 → I 82 s = nI e → e ≤ 12 → sp_var y e = 0 → Q (-12) Ω I J) (hQ : ∀ s e, x = nI s → s < 4 → ¬ I 81 s < 0 → I 82 s = nI e → e ≤ 12 → ¬ sp_var y e = 0 → Q (nI 0) Ω I J) : aw_Call G MX8_wrong d 0 0 [.ref (aw_ad G 65), .int x, .int y] Ω I J (aw_QI Q) := by
  refine aw_enter (by decide +kernel) rfl (Nat.le_of_ble_eq_true rfl) ?_
  show AW G MX8_wrong (aw_nx Ω) d 0 0 (aw_QI Q) Ω I J 0 0 [.ref (aw_ad G 65), .int x, .int y] 0 []
  refine aw_iload_n dX8_wrong_0 rfl ?_
  refine aw_csI (As := [_]) (d' := d - 1) dX8_wrong_1 lkX8_251 (by omega) rfl rfl (Nat.le_of_ble_eq_true rfl) ⟨Nat.le_refl _, Nat.le_refl _⟩ (tX8_isSheet (by omega) ?_)
  refine aw_if_ne (t := 12) dX8_wrong_4 (by decide) (fun h1 => ?_) (fun h1 => ?_)
  · skip
    obtain ⟨s, hs, rfl⟩ := sp_var1 h1
    obtain ⟨e, e12, he⟩ := hL s hs
    refine aw_aload_n dX8_wrong_12 rfl ?_
    refine aw_getR dX8_wrong_13 flX8_60 hM.o hM.p30 ?_
    refine aw_iload_n dX8_wrong_16 rfl ?_
    refine aw_iald dX8_wrong_17 hM.s30 rfl (by omega) ?_
    refine aw_if_ge (t := 26) dX8_wrong_18 (by decide) (fun h2 => ?_) (fun h2 => ?_)
    · skip
      refine aw_iload_n dX8_wrong_26 rfl ?_
      refine aw_i2l dX8_wrong_27 ?_
      refine aw_lconst (v := 0) dX8_wrong_28 (by decide) ?_
      refine aw_aload_n dX8_wrong_29 rfl ?_
      refine aw_getR dX8_wrong_30 flX8_63 hM.o hM.p31 ?_
      refine aw_pc (pc2 := 33) rfl ?_
      refine aw_iload_n dX8_wrong_33 rfl ?_
      refine aw_ialdv (v := nI e) dX8_wrong_34 hM.s31 rfl (by omega) he ?_
      refine aw_iconst (v := nI 1) dX8_wrong_35 (by decide) ?_
      refine aw_isub dX8_wrong_36 ?_
      refine aw_i2l dX8_wrong_37 ?_
      refine aw_csI (As := [_, _, _]) (d' := d - 1) dX8_wrong_38 lkX8_84 (by omega) rfl rfl (Nat.le_of_ble_eq_true rfl) ⟨Nat.le_refl _, Nat.le_refl _⟩ (tX8_in ?_)
      refine aw_toI (rg_var y (by omega)) ?_
      refine aw_pc (pc2 := 41) rfl ?_
      refine aw_if_eq (t := 48) dX8_wrong_41 (by decide) (fun h3 => ?_) (fun h3 => ?_)
      · skip
        refine aw_bipush (v := -12) dX8_wrong_48 (by decide) ?_
        try simp only [lcmpE, lcmpL, lcmpG, lcmpLE, lcmpGT, nrm_le, nrm_le64, Classical.not_not] at h1
        try simp only [lcmpE, lcmpL, lcmpG, lcmpLE, lcmpGT, nrm_le, nrm_le64, Classical.not_not] at h2
        try simp only [lcmpE, lcmpL, lcmpG, lcmpLE, lcmpGT, nrm_le, nrm_le64, Classical.not_not] at h3
        exact aw_iret dX8_wrong_50 rfl (kP s e rfl hs h2 he e12 h3) (Nat.zero_le _) (Nat.zero_le _)
      · skip
        refine aw_iconst (v := nI 0) dX8_wrong_44 (by decide) ?_
        refine aw_goto (t := 50) dX8_wrong_45 (by decide) ?_
        try simp only [lcmpE, lcmpL, lcmpG, lcmpLE, lcmpGT, nrm_le, nrm_le64, Classical.not_not] at h1
        try simp only [lcmpE, lcmpL, lcmpG, lcmpLE, lcmpGT, nrm_le, nrm_le64, Classical.not_not] at h2
        try simp only [lcmpE, lcmpL, lcmpG, lcmpLE, lcmpGT, nrm_le, nrm_le64, Classical.not_not] at h3
        exact aw_iret dX8_wrong_50 rfl (hQ s e rfl hs h2 he e12 h3) (Nat.zero_le _) (Nat.zero_le _)
    · skip
      refine aw_bipush (v := -11) dX8_wrong_21 (by decide) ?_
      refine aw_goto (t := 50) dX8_wrong_23 (by decide) ?_
      try simp only [lcmpE, lcmpL, lcmpG, lcmpLE, lcmpGT, nrm_le, nrm_le64, Classical.not_not] at h1
      try simp only [lcmpE, lcmpL, lcmpG, lcmpLE, lcmpGT, nrm_le, nrm_le64, Classical.not_not] at h2
      exact aw_iret dX8_wrong_50 rfl (kN s rfl hs h2) (Nat.zero_le _) (Nat.zero_le _)
  · skip
    refine aw_bipush (v := -2) dX8_wrong_7 (by decide) ?_
    refine aw_goto (t := 50) dX8_wrong_9 (by decide) ?_
    try simp only [lcmpE, lcmpL, lcmpG, lcmpLE, lcmpGT, nrm_le, nrm_le64, Classical.not_not] at h1
    exact aw_iret dX8_wrong_50 rfl (kB h1) (Nat.zero_le _) (Nat.zero_le _)
theorem tX8_cell {G : aw_G} {d : Nat} {Ω : aw_O} {I : aw_MI} {J : aw_MJ} {Q : Int32 → aw_O → aw_MI → aw_MJ → Prop} {x y : Int32} {v : Int64} (hM : aw_model Ω 65) (hL : ∀ s, s < 4 → ∃ e, e ≤ 12 ∧ I 82 s = nI e) (hd : 3 ≤ d) (kB : sp_var x 4 = 0 → Q (-2) Ω I J) (kN : ∀ s, x = nI s → s < 4 → I 81 s < 0 → Q (-11) Ω I J) (kP : ∀ s e, x = nI s → s < 4 → ¬ I 81 s < 0 → I 82 s = nI e → e ≤ 12 → sp_var y e = 0 → Q (-12) Ω I J) (kM : ∀ s e i, x = nI s → s < 4 → ¬ I 81 s < 0 → I 82 s = nI e → e ≤ 12 → y = nI i → i < e → I 81 s = 0 → ¬ v = v.toInt32.toInt64 → Q (-5) Ω I J) (hQ : ∀ s e i, x = nI s → s < 4 → ¬ I 81 s < 0 → I 82 s = nI e → e ≤ 12 → y = nI i → i < e → (I 81 s = 0 → v = v.toInt32.toInt64) → Q (nI 1) Ω I (aw_up J 83 (12 * s + i) v)) : aw_Call G MX8_cell d 0 0 [.ref (aw_ad G 65), .int x, .int y, .long v] Ω I J (aw_QI Q) := by
  refine aw_enter (by decide +kernel) rfl (Nat.le_of_ble_eq_true rfl) ?_
  show AW G MX8_cell (aw_nx Ω) d 0 0 (aw_QI Q) Ω I J 0 0 [.ref (aw_ad G 65), .int x, .int y, .long v, .null, .null] 0 []
  refine aw_aload_n dX8_cell_0 rfl ?_
  refine aw_iload_n dX8_cell_1 rfl ?_
  refine aw_iload_n dX8_cell_2 rfl ?_
  refine aw_cvI (As := [_, _]) (d' := d - 1) dX8_cell_3 lkX8_283 hM.o (by omega) rfl rfl (Nat.le_of_ble_eq_true rfl) ⟨Nat.le_refl _, Nat.le_refl _⟩ (tX8_wrong hM hL (by omega) ?_ ?_ ?_ ?_)
  · skip
    intro kb
    refine aw_istore dX8_cell_6 (by decide) ?_
    refine aw_lv (lv2 := [.ref _, .int _, .int _, .long _, .null, .int _]) rfl ?_
    refine aw_iload dX8_cell_8 rfl ?_
    refine aw_if_eq (t := 16) dX8_cell_10 (by decide) (fun h1 => absurd h1 (by decide)) (fun h1 => ?_)
    refine aw_iload dX8_cell_13 rfl ?_
    exact aw_iret dX8_cell_15 rfl (kB kb) (Nat.zero_le _) (Nat.zero_le _)
  · skip
    intro s eS hs kb
    refine aw_istore dX8_cell_6 (by decide) ?_
    refine aw_lv (lv2 := [.ref _, .int _, .int _, .long _, .null, .int _]) rfl ?_
    refine aw_iload dX8_cell_8 rfl ?_
    refine aw_if_eq (t := 16) dX8_cell_10 (by decide) (fun h2 => absurd h2 (by decide)) (fun h2 => ?_)
    refine aw_iload dX8_cell_13 rfl ?_
    exact aw_iret dX8_cell_15 rfl (kN s eS hs kb) (Nat.zero_le _) (Nat.zero_le _)
  · skip
    intro s e eS hs k1 he e12 kb
    refine aw_istore dX8_cell_6 (by decide) ?_
    refine aw_lv (lv2 := [.ref _, .int _, .int _, .long _, .null, .int _]) rfl ?_
    refine aw_iload dX8_cell_8 rfl ?_
    refine aw_if_eq (t := 16) dX8_cell_10 (by decide) (fun h3 => absurd h3 (by decide)) (fun h3 => ?_)
    refine aw_iload dX8_cell_13 rfl ?_
    exact aw_iret dX8_cell_15 rfl (kP s e eS hs k1 he e12 kb) (Nat.zero_le _) (Nat.zero_le _)
  · skip
    intro s e eS hs k1 he e12 kb
    subst eS
    obtain ⟨i, hi, rfl⟩ := sp_var1 kb
    refine aw_istore dX8_cell_6 (by decide) ?_
    refine aw_lv (lv2 := [.ref _, .int _, .int _, .long _, .null, .int _]) rfl ?_
    refine aw_iload dX8_cell_8 rfl ?_
    refine aw_if_eq (t := 16) dX8_cell_10 (by decide) (fun h4 => ?_) (fun h4 => absurd h4 (by decide))
    refine aw_aload_n dX8_cell_16 rfl ?_
    refine aw_getR dX8_cell_17 flX8_60 hM.o hM.p30 ?_
    refine aw_pc (pc2 := 20) rfl ?_
    refine aw_iload_n dX8_cell_20 rfl ?_
    refine aw_iald dX8_cell_21 hM.s30 rfl (by omega) ?_
    refine aw_if_ne (t := 36) dX8_cell_22 (by decide) (fun h5 => ?_) (fun h5 => ?_)
    · skip
      refine aw_aload_n dX8_cell_36 rfl ?_
      refine aw_getR dX8_cell_37 flX8_66 hM.o hM.p32 ?_
      refine aw_bipush (v := nI 12) dX8_cell_40 (by decide) ?_
      refine aw_iload_n dX8_cell_42 rfl ?_
      refine aw_imulN dX8_cell_43 ?_
      refine aw_pc (pc2 := 44) rfl ?_
      refine aw_iload_n dX8_cell_44 rfl ?_
      refine aw_iaddN dX8_cell_45 ?_
      refine aw_lload_n dX8_cell_46 rfl ?_
      refine aw_last dX8_cell_47 hM.s32 rfl (by omega) rfl ?_
      refine aw_iconst (v := nI 1) dX8_cell_48 (by decide) ?_
      try simp only [lcmpE, lcmpL, lcmpG, lcmpLE, lcmpGT, nrm_le, nrm_le64, Classical.not_not] at h5
      exact aw_iret dX8_cell_49 rfl (hQ s e i rfl hs k1 he e12 rfl hi (fun q => absurd q h5)) (Nat.zero_le _) (Nat.zero_le _)
    · skip
      refine aw_lload_n dX8_cell_25 rfl ?_
      refine aw_lload_n dX8_cell_26 rfl ?_
      refine aw_l2i dX8_cell_27 ?_
      refine aw_i2l dX8_cell_28 ?_
      refine aw_lcmp dX8_cell_29 ?_
      refine aw_pc (pc2 := 30) rfl ?_
      refine aw_if_eq (t := 36) dX8_cell_30 (by decide) (fun h6 => ?_) (fun h6 => ?_)
      · skip
        refine aw_aload_n dX8_cell_36 rfl ?_
        refine aw_getR dX8_cell_37 flX8_66 hM.o hM.p32 ?_
        refine aw_bipush (v := nI 12) dX8_cell_40 (by decide) ?_
        refine aw_iload_n dX8_cell_42 rfl ?_
        refine aw_imulN dX8_cell_43 ?_
        refine aw_pc (pc2 := 44) rfl ?_
        refine aw_iload_n dX8_cell_44 rfl ?_
        refine aw_iaddN dX8_cell_45 ?_
        refine aw_lload_n dX8_cell_46 rfl ?_
        refine aw_last dX8_cell_47 hM.s32 rfl (by omega) rfl ?_
        refine aw_iconst (v := nI 1) dX8_cell_48 (by decide) ?_
        try simp only [lcmpE, lcmpL, lcmpG, lcmpLE, lcmpGT, nrm_le, nrm_le64, Classical.not_not] at h5
        try simp only [lcmpE, lcmpL, lcmpG, lcmpLE, lcmpGT, nrm_le, nrm_le64, Classical.not_not] at h6
        exact aw_iret dX8_cell_49 rfl (hQ s e i rfl hs k1 he e12 rfl hi (fun _ => h6)) (Nat.zero_le _) (Nat.zero_le _)
      · skip
        refine aw_bipush (v := -5) dX8_cell_33 (by decide) ?_
        try simp only [lcmpE, lcmpL, lcmpG, lcmpLE, lcmpGT, nrm_le, nrm_le64, Classical.not_not] at h5
        try simp only [lcmpE, lcmpL, lcmpG, lcmpLE, lcmpGT, nrm_le, nrm_le64, Classical.not_not] at h6
        exact aw_iret dX8_cell_35 rfl (kM s e i rfl hs k1 he e12 rfl hi h5 h6) (Nat.zero_le _) (Nat.zero_le _)
theorem tX8_read {G : aw_G} {d : Nat} {Ω : aw_O} {I : aw_MI} {J : aw_MJ} {Q : Int64 → aw_O → aw_MI → aw_MJ → Prop} {x y : Int32} (hM : aw_model Ω 65) (hL : ∀ s, s < 4 → ∃ e, e ≤ 12 ∧ I 82 s = nI e) (hd : 3 ≤ d) (kB : sp_var x 4 = 0 → Q (-4611686018427387904 + (-2 : Int32).toInt64) Ω I J) (kN : ∀ s, x = nI s → s < 4 → I 81 s < 0 → Q (-4611686018427387904 + (-11 : Int32).toInt64) Ω I J) (kP : ∀ s e, x = nI s → s < 4 → ¬ I 81 s < 0 → I 82 s = nI e → e ≤ 12 → sp_var y e = 0 → Q (-4611686018427387904 + (-12 : Int32).toInt64) Ω I J) (hQ : ∀ s e i, x = nI s → s < 4 → ¬ I 81 s < 0 → I 82 s = nI e → e ≤ 12 → y = nI i → i < e → Q (J 83 (12 * s + i)) Ω I J) : aw_Call G MX8_read d 0 0 [.ref (aw_ad G 65), .int x, .int y] Ω I J (aw_QL Q) := by
  refine aw_enter (by decide +kernel) rfl (Nat.le_of_ble_eq_true rfl) ?_
  show AW G MX8_read (aw_nx Ω) d 0 0 (aw_QL Q) Ω I J 0 0 [.ref (aw_ad G 65), .int x, .int y, .null] 0 []
  refine aw_aload_n dX8_read_0 rfl ?_
  refine aw_iload_n dX8_read_1 rfl ?_
  refine aw_iload_n dX8_read_2 rfl ?_
  refine aw_cvI (As := [_, _]) (d' := d - 1) dX8_read_3 lkX8_283 hM.o (by omega) rfl rfl (Nat.le_of_ble_eq_true rfl) ⟨Nat.le_refl _, Nat.le_refl _⟩ (tX8_wrong hM hL (by omega) ?_ ?_ ?_ ?_)
  · skip
    intro kb
    refine aw_istore_n dX8_read_6 (by decide) ?_
    refine aw_lv (lv2 := [.ref _, .int _, .int _, .int _]) rfl ?_
    refine aw_iload_n dX8_read_7 rfl ?_
    refine aw_if_eq (t := 18) dX8_read_8 (by decide) (fun h1 => absurd h1 (by decide)) (fun h1 => ?_)
    refine aw_iload_n dX8_read_11 rfl ?_
    refine aw_csL (As := [_]) (d' := d - 1) dX8_read_12 lkX8_200 (by omega) rfl rfl (Nat.le_of_ble_eq_true rfl) ⟨Nat.le_refl _, Nat.le_refl _⟩ (tX8_refused ?_)
    refine aw_pc (pc2 := 15) rfl ?_
    refine aw_goto (t := 29) dX8_read_15 (by decide) ?_
    exact aw_lret dX8_read_29 rfl (kB kb) (Nat.zero_le _) (Nat.zero_le _)
  · skip
    intro s eS hs kb
    refine aw_istore_n dX8_read_6 (by decide) ?_
    refine aw_lv (lv2 := [.ref _, .int _, .int _, .int _]) rfl ?_
    refine aw_iload_n dX8_read_7 rfl ?_
    refine aw_if_eq (t := 18) dX8_read_8 (by decide) (fun h2 => absurd h2 (by decide)) (fun h2 => ?_)
    refine aw_iload_n dX8_read_11 rfl ?_
    refine aw_csL (As := [_]) (d' := d - 1) dX8_read_12 lkX8_200 (by omega) rfl rfl (Nat.le_of_ble_eq_true rfl) ⟨Nat.le_refl _, Nat.le_refl _⟩ (tX8_refused ?_)
    refine aw_pc (pc2 := 15) rfl ?_
    refine aw_goto (t := 29) dX8_read_15 (by decide) ?_
    exact aw_lret dX8_read_29 rfl (kN s eS hs kb) (Nat.zero_le _) (Nat.zero_le _)
  · skip
    intro s e eS hs k1 he e12 kb
    refine aw_istore_n dX8_read_6 (by decide) ?_
    refine aw_lv (lv2 := [.ref _, .int _, .int _, .int _]) rfl ?_
    refine aw_iload_n dX8_read_7 rfl ?_
    refine aw_if_eq (t := 18) dX8_read_8 (by decide) (fun h3 => absurd h3 (by decide)) (fun h3 => ?_)
    refine aw_iload_n dX8_read_11 rfl ?_
    refine aw_csL (As := [_]) (d' := d - 1) dX8_read_12 lkX8_200 (by omega) rfl rfl (Nat.le_of_ble_eq_true rfl) ⟨Nat.le_refl _, Nat.le_refl _⟩ (tX8_refused ?_)
    refine aw_pc (pc2 := 15) rfl ?_
    refine aw_goto (t := 29) dX8_read_15 (by decide) ?_
    exact aw_lret dX8_read_29 rfl (kP s e eS hs k1 he e12 kb) (Nat.zero_le _) (Nat.zero_le _)
  · skip
    intro s e eS hs k1 he e12 kb
    subst eS
    obtain ⟨i, hi, rfl⟩ := sp_var1 kb
    refine aw_istore_n dX8_read_6 (by decide) ?_
    refine aw_lv (lv2 := [.ref _, .int _, .int _, .int _]) rfl ?_
    refine aw_iload_n dX8_read_7 rfl ?_
    refine aw_if_eq (t := 18) dX8_read_8 (by decide) (fun h4 => ?_) (fun h4 => absurd h4 (by decide))
    refine aw_aload_n dX8_read_18 rfl ?_
    refine aw_getR dX8_read_19 flX8_66 hM.o hM.p32 ?_
    refine aw_pc (pc2 := 22) rfl ?_
    refine aw_bipush (v := nI 12) dX8_read_22 (by decide) ?_
    refine aw_iload_n dX8_read_24 rfl ?_
    refine aw_imulN dX8_read_25 ?_
    refine aw_iload_n dX8_read_26 rfl ?_
    refine aw_iaddN dX8_read_27 ?_
    refine aw_lald dX8_read_28 hM.s32 rfl (by omega) ?_
    refine aw_pc (pc2 := 29) rfl ?_
    exact aw_lret dX8_read_29 rfl (hQ s e i rfl hs k1 he e12 rfl hi) (Nat.zero_le _) (Nat.zero_le _)
def cy_D (i j n k t : Nat) : Prop := if j < i then t < k else n ≤ t + k
def cy_P (J0 J : aw_MJ) (a b i j n k : Nat) : Prop := (∀ c, c ≠ 83 → J c = J0 c) ∧ ∀ q, (12 * b + j ≤ q ∧ q < 12 * b + j + n ∧ (if j < i then q - (12 * b + j) < k else n ≤ q - (12 * b + j) + k) → J 83 q = J0 83 (12 * a + i + (q - (12 * b + j)))) ∧ (¬ (12 * b + j ≤ q ∧ q < 12 * b + j + n ∧ (if j < i then q - (12 * b + j) < k else n ≤ q - (12 * b + j) + k)) → J 83 q = J0 83 q)
theorem cy_s {J0 J : aw_MJ} {a b i j n k t : Nat} (h : cy_P J0 J a b i j n k) (hk : k < n) (hi : i + n ≤ 12) (hj : j + n ≤ 12) (ht : t = if j < i then k else n - 1 - k) : cy_P J0 (aw_up J 83 (12 * b + j + t) (J 83 (12 * a + i + t))) a b i j n (k + 1) := by
  refine ⟨fun c hc => by rw [aw_up_off J _ hc, h.1 c hc], fun q => ?_⟩
  have src : J 83 (12 * a + i + t) = J0 83 (12 * a + i + t) := by
    refine (h.2 (12 * a + i + t)).2 ?_
    by_cases e : j < i
    · rw [if_pos e] at ht ⊢
      omega
    · rw [if_neg e] at ht ⊢
      omega
  by_cases e : q = 12 * b + j + t
  · refine ⟨fun _ => ?_, fun hn => absurd ?_ hn⟩
    · rw [e, aw_up_self, src, show 12 * b + j + t - (12 * b + j) = t by omega]
    · by_cases e2 : j < i
      · rw [if_pos e2] at ht ⊢
        omega
      · rw [if_neg e2] at ht ⊢
        omega
  · rw [aw_up_ne J _ (Or.inr e)]
    by_cases e2 : j < i
    · rw [if_pos e2] at ht
      have h2 := h.2 q
      rw [if_pos e2] at h2 ⊢
      exact ⟨fun c => h2.1 (by omega), fun c => h2.2 (by omega)⟩
    · rw [if_neg e2] at ht
      have h2 := h.2 q
      rw [if_neg e2] at h2 ⊢
      exact ⟨fun c => h2.1 (by omega), fun c => h2.2 (by omega)⟩
theorem cy_n {J0 J : aw_MJ} {a b i j n : Nat} (h : cy_P J0 J a b i j n n) : J = aw_cp J0 83 83 (12 * a + i) (12 * b + j) n := by
  funext c q
  unfold aw_cp
  by_cases e : c = 83
  · subst e
    by_cases e2 : 12 * b + j ≤ q ∧ q < 12 * b + j + n
    · rw [if_pos ⟨rfl, e2⟩]
      refine (h.2 q).1 ⟨e2.1, e2.2, ?_⟩
      split <;> omega
    · rw [if_neg (fun w => e2 w.2)]
      exact (h.2 q).2 (fun w => e2 ⟨w.1, w.2.1⟩)
  · rw [if_neg (fun w => e w.1), h.1 c e]
theorem nI_ex {x : Int32} (h : ¬ x < 0) : ∃ i, x = nI i ∧ i < 2 ^ 31 ∧ x.toInt = i := by
  rw [Int32.lt_iff_toInt_lt] at h
  have h0 : (0 : Int32).toInt = 0 := rfl
  have h1 := Int32.toInt_lt x
  have h2 : x.toInt.toNat < 2 ^ 31 := by omega
  refine ⟨x.toInt.toNat, Int32.toInt_inj.mp ?_, h2, by omega⟩
  rw [nI_toInt h2]
  omega
theorem cp_num {e : Nat} {x v : Int32} (he : e ≤ 12) (hx : ¬ x < 0) (hv : ¬ v < 0) (h : ¬ nI e - x < v) : ∃ i k, x = nI i ∧ v = nI k ∧ i + k ≤ e := by
  obtain ⟨i, ei, hi, ti⟩ := nI_ex hx
  obtain ⟨k, ek, hk, tk⟩ := nI_ex hv
  refine ⟨i, k, ei, ek, ?_⟩
  rw [Int32.lt_iff_toInt_lt, Int32.toInt_sub, nI_toInt (by omega), ti, tk, Int.bmod_eq_of_le (by omega) (by omega)] at h
  omega
theorem lX8_copy {G : aw_G} {d : Nat} {Ω : aw_O} {I : aw_MI} {Q : Int32 → aw_O → aw_MI → aw_MJ → Prop} {a b i j n : Nat} {J0 : aw_MJ} (hM : aw_model Ω 65) (ha : a < 4) (hb : b < 4) (hi : i + n ≤ 12) (hj : j + n ≤ 12) (hQ : Q (nI n) Ω I (aw_cp J0 83 83 (12 * a + i) (12 * b + j) n)) : ∀ (z k : Nat) (J : aw_MJ), k ≤ n → n - k < z → cy_P J0 J a b i j n k → AW G MX8_copy (aw_nx Ω) d 0 0 (aw_QI Q) Ω I J 0 0 [.ref (aw_ad G 65), .int (nI a), .int (nI i), .int (nI b), .int (nI j), .int (nI n), .int (nI k), .null] 103 [] := by
  intro z
  induction z with
  | zero =>
    intro k J h0 hz hP
    exact absurd hz (by omega)
  | succ z ih =>
    intro k J h0 hz hP
    refine aw_iload dX8_copy_103 rfl ?_
    refine aw_iload dX8_copy_105 rfl ?_
    refine aw_geN (t := 165) dX8_copy_107 (by decide) (by omega) (by omega) (fun h1 => ?_) (fun h1 => ?_)
    · skip
      refine aw_iload dX8_copy_165 rfl ?_
      exact aw_iret dX8_copy_167 rfl ((by rw [show k = n from by omega] at hP; rw [cy_n hP]; exact hQ)) (Nat.zero_le _) (Nat.zero_le _)
    · skip
      refine aw_iload_n dX8_copy_110 rfl ?_
      refine aw_iload dX8_copy_111 rfl ?_
      refine aw_leN (t := 121) dX8_copy_113 (by decide) (by omega) (by omega) (fun h2 => ?_) (fun h2 => ?_)
      · skip
        refine aw_iload dX8_copy_121 rfl ?_
        refine aw_iconst (v := nI 1) dX8_copy_123 (by decide) ?_
        refine aw_isubN dX8_copy_124 (by omega) ?_
        refine aw_iload dX8_copy_125 rfl ?_
        refine aw_isubN dX8_copy_127 (by omega) ?_
        refine aw_pc (pc2 := 128) rfl ?_
        refine aw_istore dX8_copy_128 (by decide) ?_
        refine aw_lv (lv2 := [.ref _, .int _, .int _, .int _, .int _, .int _, .int _, .int _]) rfl ?_
        refine aw_aload_n dX8_copy_130 rfl ?_
        refine aw_getR dX8_copy_131 flX8_66 hM.o hM.p32 ?_
        refine aw_bipush (v := nI 12) dX8_copy_134 (by decide) ?_
        refine aw_iload_n dX8_copy_136 rfl ?_
        refine aw_imulN dX8_copy_137 ?_
        refine aw_pc (pc2 := 138) rfl ?_
        refine aw_iload dX8_copy_138 rfl ?_
        refine aw_iaddN dX8_copy_140 ?_
        refine aw_iload dX8_copy_141 rfl ?_
        refine aw_iaddN dX8_copy_143 ?_
        refine aw_aload_n dX8_copy_144 rfl ?_
        refine aw_getR dX8_copy_145 flX8_66 hM.o hM.p32 ?_
        refine aw_pc (pc2 := 148) rfl ?_
        refine aw_bipush (v := nI 12) dX8_copy_148 (by decide) ?_
        refine aw_iload_n dX8_copy_150 rfl ?_
        refine aw_imulN dX8_copy_151 ?_
        refine aw_iload_n dX8_copy_152 rfl ?_
        refine aw_iaddN dX8_copy_153 ?_
        refine aw_iload dX8_copy_154 rfl ?_
        refine aw_pc (pc2 := 156) rfl ?_
        refine aw_iaddN dX8_copy_156 ?_
        refine aw_lald dX8_copy_157 hM.s32 rfl (by omega) ?_
        refine aw_last dX8_copy_158 hM.s32 rfl (by omega) rfl ?_
        refine aw_iincN dX8_copy_159 rfl (by decide) ?_
        refine aw_lv (lv2 := [.ref _, .int _, .int _, .int _, .int _, .int _, .int _, .int _]) rfl ?_
        refine aw_goto (t := 103) dX8_copy_162 (by decide) ?_
        refine aw_frg 7 ?_
        exact ih (k + 1) _ (by omega) (by omega) (cy_s hP (by omega) hi hj (by first | rw [if_pos (by omega)] | rw [if_neg (by omega)]))
      · skip
        refine aw_iload dX8_copy_116 rfl ?_
        refine aw_goto (t := 128) dX8_copy_118 (by decide) ?_
        refine aw_istore dX8_copy_128 (by decide) ?_
        refine aw_lv (lv2 := [.ref _, .int _, .int _, .int _, .int _, .int _, .int _, .int _]) rfl ?_
        refine aw_aload_n dX8_copy_130 rfl ?_
        refine aw_getR dX8_copy_131 flX8_66 hM.o hM.p32 ?_
        refine aw_bipush (v := nI 12) dX8_copy_134 (by decide) ?_
        refine aw_iload_n dX8_copy_136 rfl ?_
        refine aw_pc (pc2 := 137) rfl ?_
        refine aw_imulN dX8_copy_137 ?_
        refine aw_iload dX8_copy_138 rfl ?_
        refine aw_iaddN dX8_copy_140 ?_
        refine aw_iload dX8_copy_141 rfl ?_
        refine aw_iaddN dX8_copy_143 ?_
        refine aw_aload_n dX8_copy_144 rfl ?_
        refine aw_pc (pc2 := 145) rfl ?_
        refine aw_getR dX8_copy_145 flX8_66 hM.o hM.p32 ?_
        refine aw_bipush (v := nI 12) dX8_copy_148 (by decide) ?_
        refine aw_iload_n dX8_copy_150 rfl ?_
        refine aw_imulN dX8_copy_151 ?_
        refine aw_iload_n dX8_copy_152 rfl ?_
        refine aw_iaddN dX8_copy_153 ?_
        refine aw_pc (pc2 := 154) rfl ?_
        refine aw_iload dX8_copy_154 rfl ?_
        refine aw_iaddN dX8_copy_156 ?_
        refine aw_lald dX8_copy_157 hM.s32 rfl (by omega) ?_
        refine aw_last dX8_copy_158 hM.s32 rfl (by omega) rfl ?_
        refine aw_iincN dX8_copy_159 rfl (by decide) ?_
        refine aw_lv (lv2 := [.ref _, .int _, .int _, .int _, .int _, .int _, .int _, .int _]) rfl ?_
        refine aw_goto (t := 103) dX8_copy_162 (by decide) ?_
        refine aw_frg 7 ?_
        exact ih (k + 1) _ (by omega) (by omega) (cy_s hP (by omega) hi hj (by first | rw [if_pos (by omega)] | rw [if_neg (by omega)]))
theorem tX8_copy {G : aw_G} {d : Nat} {Ω : aw_O} {I : aw_MI} {J : aw_MJ} {Q : Int32 → aw_O → aw_MI → aw_MJ → Prop} {x y u w v : Int32} (hM : aw_model Ω 65) (hL : ∀ s, s < 4 → ∃ e, e ≤ 12 ∧ I 82 s = nI e) (hd : 2 ≤ d) (kB : sp_var x 4 = 0 ∨ sp_var u 4 = 0 → Q (-2) Ω I J) (kN : ∀ s t, x = nI s → u = nI t → s < 4 → t < 4 → I 81 s < 0 ∨ I 81 t < 0 → Q (-11) Ω I J) (kK : ∀ s t, x = nI s → u = nI t → s < 4 → t < 4 → ¬ I 81 s < 0 → ¬ I 81 t < 0 → ¬ I 81 s = I 81 t → Q (-13) Ω I J) (kP : ∀ s t, x = nI s → u = nI t → s < 4 → t < 4 → ¬ I 81 s < 0 → ¬ I 81 t < 0 → I 81 s = I 81 t → (v < 0 ∨ y < 0 ∨ w < 0 ∨ I 82 s - y < v ∨ I 82 t - w < v) → Q (-12) Ω I J) (hQ : ∀ s i t j k, x = nI s → u = nI t → s < 4 → t < 4 → ¬ I 81 s < 0 → ¬ I 81 t < 0 → I 81 s = I 81 t → y = nI i → w = nI j → v = nI k → (∃ e, I 82 s = nI e ∧ i + k ≤ e ∧ e ≤ 12) → (∃ e, I 82 t = nI e ∧ j + k ≤ e ∧ e ≤ 12) → Q (nI k) Ω I (aw_cp J 83 83 (12 * s + i) (12 * t + j) k)) : aw_Call G MX8_copy d 0 0 [.ref (aw_ad G 65), .int x, .int y, .int u, .int w, .int v] Ω I J (aw_QI Q) := by
  refine aw_enter (by decide +kernel) rfl (Nat.le_of_ble_eq_true rfl) ?_
  show AW G MX8_copy (aw_nx Ω) d 0 0 (aw_QI Q) Ω I J 0 0 [.ref (aw_ad G 65), .int x, .int y, .int u, .int w, .int v, .null, .null] 0 []
  refine aw_iload_n dX8_copy_0 rfl ?_
  refine aw_csI (As := [_]) (d' := d - 1) dX8_copy_1 lkX8_251 (by omega) rfl rfl (Nat.le_of_ble_eq_true rfl) ⟨Nat.le_refl _, Nat.le_refl _⟩ (tX8_isSheet (by omega) ?_)
  refine aw_if_eq (t := 14) dX8_copy_4 (by decide) (fun h1 => ?_) (fun h1 => ?_)
  · skip
    refine aw_bipush (v := -2) dX8_copy_14 (by decide) ?_
    try simp only [lcmpE, lcmpL, lcmpG, lcmpLE, lcmpGT, nrm_le, nrm_le64, Classical.not_not] at h1
    exact aw_iret dX8_copy_16 rfl (kB (Or.inl h1)) (Nat.zero_le _) (Nat.zero_le _)
  · skip
    obtain ⟨s, hs, rfl⟩ := sp_var1 h1
    obtain ⟨f1, b1, e1⟩ := hL s hs
    refine aw_iload_n dX8_copy_7 rfl ?_
    refine aw_csI (As := [_]) (d' := d - 1) dX8_copy_8 lkX8_251 (by omega) rfl rfl (Nat.le_of_ble_eq_true rfl) ⟨Nat.le_refl _, Nat.le_refl _⟩ (tX8_isSheet (by omega) ?_)
    refine aw_if_ne (t := 17) dX8_copy_11 (by decide) (fun h2 => ?_) (fun h2 => ?_)
    · skip
      obtain ⟨t, ht, rfl⟩ := sp_var1 h2
      obtain ⟨f2, b2, e2⟩ := hL t ht
      refine aw_aload_n dX8_copy_17 rfl ?_
      refine aw_getR dX8_copy_18 flX8_60 hM.o hM.p30 ?_
      refine aw_iload_n dX8_copy_21 rfl ?_
      refine aw_iald dX8_copy_22 hM.s30 rfl (by omega) ?_
      refine aw_if_lt (t := 35) dX8_copy_23 (by decide) (fun h3 => ?_) (fun h3 => ?_)
      · skip
        refine aw_bipush (v := -11) dX8_copy_35 (by decide) ?_
        try simp only [lcmpE, lcmpL, lcmpG, lcmpLE, lcmpGT, nrm_le, nrm_le64, Classical.not_not] at h1
        try simp only [lcmpE, lcmpL, lcmpG, lcmpLE, lcmpGT, nrm_le, nrm_le64, Classical.not_not] at h2
        try simp only [lcmpE, lcmpL, lcmpG, lcmpLE, lcmpGT, nrm_le, nrm_le64, Classical.not_not] at h3
        exact aw_iret dX8_copy_37 rfl (kN s t rfl rfl hs ht (Or.inl h3)) (Nat.zero_le _) (Nat.zero_le _)
      · skip
        refine aw_aload_n dX8_copy_26 rfl ?_
        refine aw_getR dX8_copy_27 flX8_60 hM.o hM.p30 ?_
        refine aw_iload_n dX8_copy_30 rfl ?_
        refine aw_iald dX8_copy_31 hM.s30 rfl (by omega) ?_
        refine aw_if_ge (t := 38) dX8_copy_32 (by decide) (fun h4 => ?_) (fun h4 => ?_)
        · skip
          refine aw_aload_n dX8_copy_38 rfl ?_
          refine aw_getR dX8_copy_39 flX8_60 hM.o hM.p30 ?_
          refine aw_iload_n dX8_copy_42 rfl ?_
          refine aw_iald dX8_copy_43 hM.s30 rfl (by omega) ?_
          refine aw_aload_n dX8_copy_44 rfl ?_
          refine aw_pc (pc2 := 45) rfl ?_
          refine aw_getR dX8_copy_45 flX8_60 hM.o hM.p30 ?_
          refine aw_iload_n dX8_copy_48 rfl ?_
          refine aw_iald dX8_copy_49 hM.s30 rfl (by omega) ?_
          refine aw_icmp_eq (t := 56) dX8_copy_50 (by decide) (fun h5 => ?_) (fun h5 => ?_)
          · skip
            refine aw_iload dX8_copy_56 rfl ?_
            refine aw_if_lt (t := 97) dX8_copy_58 (by decide) (fun h6 => ?_) (fun h6 => ?_)
            · skip
              refine aw_bipush (v := -12) dX8_copy_97 (by decide) ?_
              try simp only [lcmpE, lcmpL, lcmpG, lcmpLE, lcmpGT, nrm_le, nrm_le64, Classical.not_not] at h1
              try simp only [lcmpE, lcmpL, lcmpG, lcmpLE, lcmpGT, nrm_le, nrm_le64, Classical.not_not] at h2
              try simp only [lcmpE, lcmpL, lcmpG, lcmpLE, lcmpGT, nrm_le, nrm_le64, Classical.not_not] at h3
              try simp only [lcmpE, lcmpL, lcmpG, lcmpLE, lcmpGT, nrm_le, nrm_le64, Classical.not_not] at h4
              try simp only [lcmpE, lcmpL, lcmpG, lcmpLE, lcmpGT, nrm_le, nrm_le64, Classical.not_not] at h5
              try simp only [lcmpE, lcmpL, lcmpG, lcmpLE, lcmpGT, nrm_le, nrm_le64, Classical.not_not] at h6
              exact aw_iret dX8_copy_99 rfl (kP s t rfl rfl hs ht h3 h4 h5 (Or.inl h6)) (Nat.zero_le _) (Nat.zero_le _)
            · skip
              refine aw_iload_n dX8_copy_61 rfl ?_
              refine aw_if_lt (t := 97) dX8_copy_62 (by decide) (fun h7 => ?_) (fun h7 => ?_)
              · skip
                refine aw_bipush (v := -12) dX8_copy_97 (by decide) ?_
                try simp only [lcmpE, lcmpL, lcmpG, lcmpLE, lcmpGT, nrm_le, nrm_le64, Classical.not_not] at h1
                try simp only [lcmpE, lcmpL, lcmpG, lcmpLE, lcmpGT, nrm_le, nrm_le64, Classical.not_not] at h2
                try simp only [lcmpE, lcmpL, lcmpG, lcmpLE, lcmpGT, nrm_le, nrm_le64, Classical.not_not] at h3
                try simp only [lcmpE, lcmpL, lcmpG, lcmpLE, lcmpGT, nrm_le, nrm_le64, Classical.not_not] at h4
                try simp only [lcmpE, lcmpL, lcmpG, lcmpLE, lcmpGT, nrm_le, nrm_le64, Classical.not_not] at h5
                try simp only [lcmpE, lcmpL, lcmpG, lcmpLE, lcmpGT, nrm_le, nrm_le64, Classical.not_not] at h6
                try simp only [lcmpE, lcmpL, lcmpG, lcmpLE, lcmpGT, nrm_le, nrm_le64, Classical.not_not] at h7
                exact aw_iret dX8_copy_99 rfl (kP s t rfl rfl hs ht h3 h4 h5 (Or.inr (Or.inl h7))) (Nat.zero_le _) (Nat.zero_le _)
              · skip
                refine aw_iload dX8_copy_65 rfl ?_
                refine aw_if_lt (t := 97) dX8_copy_67 (by decide) (fun h8 => ?_) (fun h8 => ?_)
                · skip
                  refine aw_bipush (v := -12) dX8_copy_97 (by decide) ?_
                  try simp only [lcmpE, lcmpL, lcmpG, lcmpLE, lcmpGT, nrm_le, nrm_le64, Classical.not_not] at h1
                  try simp only [lcmpE, lcmpL, lcmpG, lcmpLE, lcmpGT, nrm_le, nrm_le64, Classical.not_not] at h2
                  try simp only [lcmpE, lcmpL, lcmpG, lcmpLE, lcmpGT, nrm_le, nrm_le64, Classical.not_not] at h3
                  try simp only [lcmpE, lcmpL, lcmpG, lcmpLE, lcmpGT, nrm_le, nrm_le64, Classical.not_not] at h4
                  try simp only [lcmpE, lcmpL, lcmpG, lcmpLE, lcmpGT, nrm_le, nrm_le64, Classical.not_not] at h5
                  try simp only [lcmpE, lcmpL, lcmpG, lcmpLE, lcmpGT, nrm_le, nrm_le64, Classical.not_not] at h6
                  try simp only [lcmpE, lcmpL, lcmpG, lcmpLE, lcmpGT, nrm_le, nrm_le64, Classical.not_not] at h7
                  try simp only [lcmpE, lcmpL, lcmpG, lcmpLE, lcmpGT, nrm_le, nrm_le64, Classical.not_not] at h8
                  exact aw_iret dX8_copy_99 rfl (kP s t rfl rfl hs ht h3 h4 h5 (Or.inr (Or.inr (Or.inl h8)))) (Nat.zero_le _) (Nat.zero_le _)
                · skip
                  refine aw_iload dX8_copy_70 rfl ?_
                  refine aw_aload_n dX8_copy_72 rfl ?_
                  refine aw_getR dX8_copy_73 flX8_63 hM.o hM.p31 ?_
                  refine aw_iload_n dX8_copy_76 rfl ?_
                  refine aw_ialdv (v := nI f1) dX8_copy_77 hM.s31 rfl (by omega) e1 ?_
                  refine aw_pc (pc2 := 78) rfl ?_
                  refine aw_iload_n dX8_copy_78 rfl ?_
                  refine aw_isub dX8_copy_79 ?_
                  refine aw_icmp_gt (t := 97) dX8_copy_80 (by decide) (fun h9 => ?_) (fun h9 => ?_)
                  · skip
                    refine aw_bipush (v := -12) dX8_copy_97 (by decide) ?_
                    try simp only [lcmpE, lcmpL, lcmpG, lcmpLE, lcmpGT, nrm_le, nrm_le64, Classical.not_not] at h1
                    try simp only [lcmpE, lcmpL, lcmpG, lcmpLE, lcmpGT, nrm_le, nrm_le64, Classical.not_not] at h2
                    try simp only [lcmpE, lcmpL, lcmpG, lcmpLE, lcmpGT, nrm_le, nrm_le64, Classical.not_not] at h3
                    try simp only [lcmpE, lcmpL, lcmpG, lcmpLE, lcmpGT, nrm_le, nrm_le64, Classical.not_not] at h4
                    try simp only [lcmpE, lcmpL, lcmpG, lcmpLE, lcmpGT, nrm_le, nrm_le64, Classical.not_not] at h5
                    try simp only [lcmpE, lcmpL, lcmpG, lcmpLE, lcmpGT, nrm_le, nrm_le64, Classical.not_not] at h6
                    try simp only [lcmpE, lcmpL, lcmpG, lcmpLE, lcmpGT, nrm_le, nrm_le64, Classical.not_not] at h7
                    try simp only [lcmpE, lcmpL, lcmpG, lcmpLE, lcmpGT, nrm_le, nrm_le64, Classical.not_not] at h8
                    try simp only [lcmpE, lcmpL, lcmpG, lcmpLE, lcmpGT, nrm_le, nrm_le64, Classical.not_not] at h9
                    exact aw_iret dX8_copy_99 rfl (kP s t rfl rfl hs ht h3 h4 h5 (Or.inr (Or.inr (Or.inr (Or.inl (by rw [e1]; exact h9)))))) (Nat.zero_le _) (Nat.zero_le _)
                  · skip
                    refine aw_iload dX8_copy_83 rfl ?_
                    refine aw_aload_n dX8_copy_85 rfl ?_
                    refine aw_getR dX8_copy_86 flX8_63 hM.o hM.p31 ?_
                    refine aw_iload_n dX8_copy_89 rfl ?_
                    refine aw_ialdv (v := nI f2) dX8_copy_90 hM.s31 rfl (by omega) e2 ?_
                    refine aw_pc (pc2 := 91) rfl ?_
                    refine aw_iload dX8_copy_91 rfl ?_
                    refine aw_isub dX8_copy_93 ?_
                    refine aw_icmp_le (t := 100) dX8_copy_94 (by decide) (fun h10 => ?_) (fun h10 => ?_)
                    · skip
                      refine aw_iconst (v := nI 0) dX8_copy_100 (by decide) ?_
                      refine aw_istore dX8_copy_101 (by decide) ?_
                      refine aw_lv (lv2 := [.ref _, .int _, .int _, .int _, .int _, .int _, .int _, .null]) rfl ?_
                      try simp only [lcmpE, lcmpL, lcmpG, lcmpLE, lcmpGT, nrm_le, nrm_le64, Classical.not_not] at h1
                      try simp only [lcmpE, lcmpL, lcmpG, lcmpLE, lcmpGT, nrm_le, nrm_le64, Classical.not_not] at h2
                      try simp only [lcmpE, lcmpL, lcmpG, lcmpLE, lcmpGT, nrm_le, nrm_le64, Classical.not_not] at h3
                      try simp only [lcmpE, lcmpL, lcmpG, lcmpLE, lcmpGT, nrm_le, nrm_le64, Classical.not_not] at h4
                      try simp only [lcmpE, lcmpL, lcmpG, lcmpLE, lcmpGT, nrm_le, nrm_le64, Classical.not_not] at h5
                      try simp only [lcmpE, lcmpL, lcmpG, lcmpLE, lcmpGT, nrm_le, nrm_le64, Classical.not_not] at h6
                      try simp only [lcmpE, lcmpL, lcmpG, lcmpLE, lcmpGT, nrm_le, nrm_le64, Classical.not_not] at h7
                      try simp only [lcmpE, lcmpL, lcmpG, lcmpLE, lcmpGT, nrm_le, nrm_le64, Classical.not_not] at h8
                      try simp only [lcmpE, lcmpL, lcmpG, lcmpLE, lcmpGT, nrm_le, nrm_le64, Classical.not_not] at h9
                      try simp only [lcmpE, lcmpL, lcmpG, lcmpLE, lcmpGT, nrm_le, nrm_le64, Classical.not_not] at h10
                      obtain ⟨i, k, rfl, rfl, q1⟩ := cp_num b1 h7 h6 h9
                      obtain ⟨j, k2, rfl, ek, q2⟩ := cp_num b2 h8 h6 h10
                      have ek2 : k = k2 := (nI_eq (by omega) (by omega)).mp ek
                      subst ek2
                      exact lX8_copy (J0 := J) hM hs ht (by omega) (by omega) (hQ s i t j k rfl rfl hs ht h3 h4 h5 rfl rfl rfl ⟨f1, e1, q1, b1⟩ ⟨f2, e2, q2, b2⟩) (k + 1) 0 J (by omega) (by omega) ⟨fun _ _ => rfl, fun q => ⟨fun w => absurd w.2.2 (by have := w.1; have := w.2.1; split <;> omega), fun _ => rfl⟩⟩
                    · skip
                      refine aw_bipush (v := -12) dX8_copy_97 (by decide) ?_
                      try simp only [lcmpE, lcmpL, lcmpG, lcmpLE, lcmpGT, nrm_le, nrm_le64, Classical.not_not] at h1
                      try simp only [lcmpE, lcmpL, lcmpG, lcmpLE, lcmpGT, nrm_le, nrm_le64, Classical.not_not] at h2
                      try simp only [lcmpE, lcmpL, lcmpG, lcmpLE, lcmpGT, nrm_le, nrm_le64, Classical.not_not] at h3
                      try simp only [lcmpE, lcmpL, lcmpG, lcmpLE, lcmpGT, nrm_le, nrm_le64, Classical.not_not] at h4
                      try simp only [lcmpE, lcmpL, lcmpG, lcmpLE, lcmpGT, nrm_le, nrm_le64, Classical.not_not] at h5
                      try simp only [lcmpE, lcmpL, lcmpG, lcmpLE, lcmpGT, nrm_le, nrm_le64, Classical.not_not] at h6
                      try simp only [lcmpE, lcmpL, lcmpG, lcmpLE, lcmpGT, nrm_le, nrm_le64, Classical.not_not] at h7
                      try simp only [lcmpE, lcmpL, lcmpG, lcmpLE, lcmpGT, nrm_le, nrm_le64, Classical.not_not] at h8
                      try simp only [lcmpE, lcmpL, lcmpG, lcmpLE, lcmpGT, nrm_le, nrm_le64, Classical.not_not] at h9
                      try simp only [lcmpE, lcmpL, lcmpG, lcmpLE, lcmpGT, nrm_le, nrm_le64, Classical.not_not] at h10
                      exact aw_iret dX8_copy_99 rfl (kP s t rfl rfl hs ht h3 h4 h5 (Or.inr (Or.inr (Or.inr (Or.inr ((by rw [e2]; exact h10))))))) (Nat.zero_le _) (Nat.zero_le _)
          · skip
            refine aw_bipush (v := -13) dX8_copy_53 (by decide) ?_
            try simp only [lcmpE, lcmpL, lcmpG, lcmpLE, lcmpGT, nrm_le, nrm_le64, Classical.not_not] at h1
            try simp only [lcmpE, lcmpL, lcmpG, lcmpLE, lcmpGT, nrm_le, nrm_le64, Classical.not_not] at h2
            try simp only [lcmpE, lcmpL, lcmpG, lcmpLE, lcmpGT, nrm_le, nrm_le64, Classical.not_not] at h3
            try simp only [lcmpE, lcmpL, lcmpG, lcmpLE, lcmpGT, nrm_le, nrm_le64, Classical.not_not] at h4
            try simp only [lcmpE, lcmpL, lcmpG, lcmpLE, lcmpGT, nrm_le, nrm_le64, Classical.not_not] at h5
            exact aw_iret dX8_copy_55 rfl (kK s t rfl rfl hs ht h3 h4 h5) (Nat.zero_le _) (Nat.zero_le _)
        · skip
          refine aw_bipush (v := -11) dX8_copy_35 (by decide) ?_
          try simp only [lcmpE, lcmpL, lcmpG, lcmpLE, lcmpGT, nrm_le, nrm_le64, Classical.not_not] at h1
          try simp only [lcmpE, lcmpL, lcmpG, lcmpLE, lcmpGT, nrm_le, nrm_le64, Classical.not_not] at h2
          try simp only [lcmpE, lcmpL, lcmpG, lcmpLE, lcmpGT, nrm_le, nrm_le64, Classical.not_not] at h3
          try simp only [lcmpE, lcmpL, lcmpG, lcmpLE, lcmpGT, nrm_le, nrm_le64, Classical.not_not] at h4
          exact aw_iret dX8_copy_37 rfl (kN s t rfl rfl hs ht (Or.inr h4)) (Nat.zero_le _) (Nat.zero_le _)
    · skip
      refine aw_bipush (v := -2) dX8_copy_14 (by decide) ?_
      try simp only [lcmpE, lcmpL, lcmpG, lcmpLE, lcmpGT, nrm_le, nrm_le64, Classical.not_not] at h1
      try simp only [lcmpE, lcmpL, lcmpG, lcmpLE, lcmpGT, nrm_le, nrm_le64, Classical.not_not] at h2
      exact aw_iret dX8_copy_16 rfl (kB (Or.inr h2)) (Nat.zero_le _) (Nat.zero_le _)
theorem lX8_image3 {G : aw_G} {d : Nat} {Ω : aw_O} {I : aw_MI} {J : aw_MJ} {Q : Int32 → aw_O → aw_MI → aw_MJ → Prop} (hM : aw_model Ω 65) (hQ : Q (I 65 4) Ω (aw_wr (aw_wr (aw_wr (aw_up (aw_up (aw_up (aw_up I 65 6 (nI 1)) 69 0 (I 65 0)) 69 1 (I 65 3)) 69 2 (I 65 4)) 69 3 9 (I 66)) 69 12 3 (I 67)) 69 15 36 (I 68)) J) : ∀ (z i : Nat), i ≤ 36 → 36 - i < z → AW G MX8_image (aw_nx Ω) d 0 0 (aw_QI Q) Ω (aw_wr (aw_wr (aw_wr (aw_up (aw_up (aw_up (aw_up I 65 6 (nI 1)) 69 0 (I 65 0)) 69 1 (I 65 3)) 69 2 (I 65 4)) 69 3 9 (I 66)) 69 12 3 (I 67)) 69 15 i (I 68)) J 0 0 [.ref (aw_ad G 65), .int (nI i)] 93 [] := by
  intro z
  induction z with
  | zero =>
    intro i h0 hz
    exact absurd hz (by omega)
  | succ z ih =>
    intro i h0 hz
    refine aw_iload_n dX8_image_93 rfl ?_
    refine aw_bipush (v := nI 36) dX8_image_94 (by decide) ?_
    refine aw_geN (t := 120) dX8_image_96 (by decide) (by omega) (by omega) (fun h1 => ?_) (fun h1 => ?_)
    · skip
      refine aw_aload_n dX8_image_120 rfl ?_
      refine aw_getIv (v := I 65 4) dX8_image_121 flX8_88 hM.o (by rw [aw_wr_off _ _ (by decide), aw_wr_off _ _ (by decide), aw_wr_off _ _ (by decide), aw_up_off _ _ (by decide), aw_up_off _ _ (by decide), aw_up_off _ _ (by decide), aw_up_ne _ _ (by decide)]) ?_
      exact aw_iret dX8_image_124 rfl ((by rw [show i = 36 from by omega]; exact hQ)) (Nat.zero_le _) (Nat.zero_le _)
    · skip
      refine aw_aload_n dX8_image_99 rfl ?_
      refine aw_getR dX8_image_100 flX8_23 hM.o hM.p7 ?_
      refine aw_bipush (v := nI 15) dX8_image_103 (by decide) ?_
      refine aw_iload_n dX8_image_105 rfl ?_
      refine aw_iaddN dX8_image_106 ?_
      refine aw_pc (pc2 := 107) rfl ?_
      refine aw_aload_n dX8_image_107 rfl ?_
      refine aw_getR dX8_image_108 flX8_20 hM.o hM.p5 ?_
      refine aw_iload_n dX8_image_111 rfl ?_
      refine aw_ialdv (v := I 68 i) dX8_image_112 hM.s5 rfl (by omega) (congrFun (by simp (disch := omega) only [aw_cp_off, aw_up_off, aw_wr_off, aw_fill_off, aw_fr_off]) _) ?_
      refine aw_iast dX8_image_113 hM.s7 rfl (by omega) rfl ?_
      refine aw_iincN dX8_image_114 rfl (by decide) ?_
      refine aw_lv (lv2 := [.ref _, .int _]) rfl ?_
      refine aw_pc (pc2 := 117) rfl ?_
      refine aw_goto (t := 93) dX8_image_117 (by decide) ?_
      refine aw_toM (aw_wr_s (aw_wr (aw_wr (aw_up (aw_up (aw_up (aw_up I 65 6 (nI 1)) 69 0 (I 65 0)) 69 1 (I 65 3)) 69 2 (I 65 4)) 69 3 9 (I 66)) 69 12 3 (I 67)) 69 15 i (I 68)) rfl ?_
      exact ih (i + 1) (by omega) (by omega)
theorem lX8_image2 {G : aw_G} {d : Nat} {Ω : aw_O} {I : aw_MI} {J : aw_MJ} {Q : Int32 → aw_O → aw_MI → aw_MJ → Prop} (hM : aw_model Ω 65) (hQ : Q (I 65 4) Ω (aw_wr (aw_wr (aw_wr (aw_up (aw_up (aw_up (aw_up I 65 6 (nI 1)) 69 0 (I 65 0)) 69 1 (I 65 3)) 69 2 (I 65 4)) 69 3 9 (I 66)) 69 12 3 (I 67)) 69 15 36 (I 68)) J) : ∀ (z i : Nat), i ≤ 3 → 3 - i < z → AW G MX8_image (aw_nx Ω) d 0 0 (aw_QI Q) Ω (aw_wr (aw_wr (aw_up (aw_up (aw_up (aw_up I 65 6 (nI 1)) 69 0 (I 65 0)) 69 1 (I 65 3)) 69 2 (I 65 4)) 69 3 9 (I 66)) 69 12 i (I 67)) J 0 0 [.ref (aw_ad G 65), .int (nI i)] 65 [] := by
  intro z
  induction z with
  | zero =>
    intro i h0 hz
    exact absurd hz (by omega)
  | succ z ih =>
    intro i h0 hz
    refine aw_iload_n dX8_image_65 rfl ?_
    refine aw_iconst (v := nI 3) dX8_image_66 (by decide) ?_
    refine aw_geN (t := 91) dX8_image_67 (by decide) (by omega) (by omega) (fun h1 => ?_) (fun h1 => ?_)
    · skip
      refine aw_iconst (v := nI 0) dX8_image_91 (by decide) ?_
      refine aw_istore_n dX8_image_92 (by decide) ?_
      refine aw_lv (lv2 := [.ref _, .int _]) rfl ?_
      rw [show i = 3 from by omega]
      refine aw_toM (aw_wr_0 (aw_wr (aw_wr (aw_up (aw_up (aw_up (aw_up I 65 6 (nI 1)) 69 0 (I 65 0)) 69 1 (I 65 3)) 69 2 (I 65 4)) 69 3 9 (I 66)) 69 12 3 (I 67)) 69 15 (I 68)) rfl ?_
      exact lX8_image3 hM hQ 37 0 (by omega) (by omega)
    · skip
      refine aw_aload_n dX8_image_70 rfl ?_
      refine aw_getR dX8_image_71 flX8_23 hM.o hM.p7 ?_
      refine aw_bipush (v := nI 12) dX8_image_74 (by decide) ?_
      refine aw_iload_n dX8_image_76 rfl ?_
      refine aw_iaddN dX8_image_77 ?_
      refine aw_pc (pc2 := 78) rfl ?_
      refine aw_aload_n dX8_image_78 rfl ?_
      refine aw_getR dX8_image_79 flX8_17 hM.o hM.p2 ?_
      refine aw_iload_n dX8_image_82 rfl ?_
      refine aw_ialdv (v := I 67 i) dX8_image_83 hM.s2 rfl (by omega) (congrFun (by simp (disch := omega) only [aw_cp_off, aw_up_off, aw_wr_off, aw_fill_off, aw_fr_off]) _) ?_
      refine aw_iast dX8_image_84 hM.s7 rfl (by omega) rfl ?_
      refine aw_iincN dX8_image_85 rfl (by decide) ?_
      refine aw_lv (lv2 := [.ref _, .int _]) rfl ?_
      refine aw_pc (pc2 := 88) rfl ?_
      refine aw_goto (t := 65) dX8_image_88 (by decide) ?_
      refine aw_toM (aw_wr_s (aw_wr (aw_up (aw_up (aw_up (aw_up I 65 6 (nI 1)) 69 0 (I 65 0)) 69 1 (I 65 3)) 69 2 (I 65 4)) 69 3 9 (I 66)) 69 12 i (I 67)) rfl ?_
      exact ih (i + 1) (by omega) (by omega)
theorem lX8_image1 {G : aw_G} {d : Nat} {Ω : aw_O} {I : aw_MI} {J : aw_MJ} {Q : Int32 → aw_O → aw_MI → aw_MJ → Prop} (hM : aw_model Ω 65) (hQ : Q (I 65 4) Ω (aw_wr (aw_wr (aw_wr (aw_up (aw_up (aw_up (aw_up I 65 6 (nI 1)) 69 0 (I 65 0)) 69 1 (I 65 3)) 69 2 (I 65 4)) 69 3 9 (I 66)) 69 12 3 (I 67)) 69 15 36 (I 68)) J) : ∀ (z i : Nat), i ≤ 9 → 9 - i < z → AW G MX8_image (aw_nx Ω) d 0 0 (aw_QI Q) Ω (aw_wr (aw_up (aw_up (aw_up (aw_up I 65 6 (nI 1)) 69 0 (I 65 0)) 69 1 (I 65 3)) 69 2 (I 65 4)) 69 3 i (I 66)) J 0 0 [.ref (aw_ad G 65), .int (nI i)] 37 [] := by
  intro z
  induction z with
  | zero =>
    intro i h0 hz
    exact absurd hz (by omega)
  | succ z ih =>
    intro i h0 hz
    refine aw_iload_n dX8_image_37 rfl ?_
    refine aw_bipush (v := nI 9) dX8_image_38 (by decide) ?_
    refine aw_geN (t := 63) dX8_image_40 (by decide) (by omega) (by omega) (fun h1 => ?_) (fun h1 => ?_)
    · skip
      refine aw_iconst (v := nI 0) dX8_image_63 (by decide) ?_
      refine aw_istore_n dX8_image_64 (by decide) ?_
      refine aw_lv (lv2 := [.ref _, .int _]) rfl ?_
      rw [show i = 9 from by omega]
      refine aw_toM (aw_wr_0 (aw_wr (aw_up (aw_up (aw_up (aw_up I 65 6 (nI 1)) 69 0 (I 65 0)) 69 1 (I 65 3)) 69 2 (I 65 4)) 69 3 9 (I 66)) 69 12 (I 67)) rfl ?_
      exact lX8_image2 hM hQ 4 0 (by omega) (by omega)
    · skip
      refine aw_aload_n dX8_image_43 rfl ?_
      refine aw_getR dX8_image_44 flX8_23 hM.o hM.p7 ?_
      refine aw_iconst (v := nI 3) dX8_image_47 (by decide) ?_
      refine aw_iload_n dX8_image_48 rfl ?_
      refine aw_iaddN dX8_image_49 ?_
      refine aw_pc (pc2 := 50) rfl ?_
      refine aw_aload_n dX8_image_50 rfl ?_
      refine aw_getR dX8_image_51 flX8_13 hM.o hM.p1 ?_
      refine aw_iload_n dX8_image_54 rfl ?_
      refine aw_ialdv (v := I 66 i) dX8_image_55 hM.s1 rfl (by omega) (congrFun (by simp (disch := omega) only [aw_cp_off, aw_up_off, aw_wr_off, aw_fill_off, aw_fr_off]) _) ?_
      refine aw_iast dX8_image_56 hM.s7 rfl (by omega) rfl ?_
      refine aw_iincN dX8_image_57 rfl (by decide) ?_
      refine aw_lv (lv2 := [.ref _, .int _]) rfl ?_
      refine aw_pc (pc2 := 60) rfl ?_
      refine aw_goto (t := 37) dX8_image_60 (by decide) ?_
      refine aw_toM (aw_wr_s (aw_up (aw_up (aw_up (aw_up I 65 6 (nI 1)) 69 0 (I 65 0)) 69 1 (I 65 3)) 69 2 (I 65 4)) 69 3 i (I 66)) rfl ?_
      exact ih (i + 1) (by omega) (by omega)
theorem tX8_image {G : aw_G} {d : Nat} {Ω : aw_O} {I : aw_MI} {J : aw_MJ} {Q : Int32 → aw_O → aw_MI → aw_MJ → Prop} (hM : aw_model Ω 65) (hQ : Q (I 65 4) Ω (aw_wr (aw_wr (aw_wr (aw_up (aw_up (aw_up (aw_up I 65 6 (nI 1)) 69 0 (I 65 0)) 69 1 (I 65 3)) 69 2 (I 65 4)) 69 3 9 (I 66)) 69 12 3 (I 67)) 69 15 36 (I 68)) J) : aw_Call G MX8_image d 0 0 [.ref (aw_ad G 65)] Ω I J (aw_QI Q) := by
  refine aw_enter (by decide +kernel) rfl (Nat.le_of_ble_eq_true rfl) ?_
  show AW G MX8_image (aw_nx Ω) d 0 0 (aw_QI Q) Ω I J 0 0 [.ref (aw_ad G 65), .null] 0 []
  refine aw_aload_n dX8_image_0 rfl ?_
  refine aw_iconst (v := nI 1) dX8_image_1 (by decide) ?_
  refine aw_putZ dX8_image_2 fwX8_286 hM.o (by decide) rfl ?_
  refine aw_aload_n dX8_image_5 rfl ?_
  refine aw_getR dX8_image_6 flX8_23 hM.o hM.p7 ?_
  refine aw_pc (pc2 := 9) rfl ?_
  refine aw_iconst (v := nI 0) dX8_image_9 (by decide) ?_
  refine aw_aload_n dX8_image_10 rfl ?_
  refine aw_getIv (v := I 65 0) dX8_image_11 flX8_7 hM.o (by rw [aw_up_ne _ _ (by decide)]) ?_
  refine aw_iast dX8_image_14 hM.s7 rfl (by omega) rfl ?_
  refine aw_aload_n dX8_image_15 rfl ?_
  refine aw_getR dX8_image_16 flX8_23 hM.o hM.p7 ?_
  refine aw_pc (pc2 := 19) rfl ?_
  refine aw_iconst (v := nI 1) dX8_image_19 (by decide) ?_
  refine aw_aload_n dX8_image_20 rfl ?_
  refine aw_getIv (v := I 65 3) dX8_image_21 flX8_93 hM.o (by rw [aw_up_off _ _ (by decide), aw_up_ne _ _ (by decide)]) ?_
  refine aw_iast dX8_image_24 hM.s7 rfl (by omega) rfl ?_
  refine aw_aload_n dX8_image_25 rfl ?_
  refine aw_getR dX8_image_26 flX8_23 hM.o hM.p7 ?_
  refine aw_pc (pc2 := 29) rfl ?_
  refine aw_iconst (v := nI 2) dX8_image_29 (by decide) ?_
  refine aw_aload_n dX8_image_30 rfl ?_
  refine aw_getIv (v := I 65 4) dX8_image_31 flX8_88 hM.o (by rw [aw_up_off _ _ (by decide), aw_up_off _ _ (by decide), aw_up_ne _ _ (by decide)]) ?_
  refine aw_iast dX8_image_34 hM.s7 rfl (by omega) rfl ?_
  refine aw_iconst (v := nI 0) dX8_image_35 (by decide) ?_
  refine aw_istore_n dX8_image_36 (by decide) ?_
  refine aw_lv (lv2 := [.ref _, .int _]) rfl ?_
  refine aw_toM (aw_wr_0 (aw_up (aw_up (aw_up (aw_up I 65 6 (nI 1)) 69 0 (I 65 0)) 69 1 (I 65 3)) 69 2 (I 65 4)) 69 3 (I 66)) rfl ?_
  exact lX8_image1 hM hQ 10 0 (by omega) (by omega)
theorem lX8_back3 {G : aw_G} {d : Nat} {Ω : aw_O} {I : aw_MI} {J : aw_MJ} {Q : Int32 → aw_O → aw_MI → aw_MJ → Prop} (hM : aw_model Ω 65) (hQ : Q (I 69 2) Ω (aw_wr (aw_wr (aw_wr (aw_up (aw_up (aw_up I 65 0 (I 69 0)) 65 3 (I 69 1)) 65 4 (I 69 2)) 66 0 9 (fun k => I 69 (3 + k))) 67 0 3 (fun k => I 69 (12 + k))) 68 0 36 (fun k => I 69 (15 + k))) J) : ∀ (z i : Nat), i ≤ 36 → 36 - i < z → AW G MX8_back (aw_nx Ω) d 0 0 (aw_QI Q) Ω (aw_wr (aw_wr (aw_wr (aw_up (aw_up (aw_up I 65 0 (I 69 0)) 65 3 (I 69 1)) 65 4 (I 69 2)) 66 0 9 (fun k => I 69 (3 + k))) 67 0 3 (fun k => I 69 (12 + k))) 68 0 i (fun k => I 69 (15 + k))) J 0 0 [.ref (aw_ad G 65), .int (nI i)] 98 [] := by
  intro z
  induction z with
  | zero =>
    intro i h0 hz
    exact absurd hz (by omega)
  | succ z ih =>
    intro i h0 hz
    refine aw_iload_n dX8_back_98 rfl ?_
    refine aw_bipush (v := nI 36) dX8_back_99 (by decide) ?_
    refine aw_geN (t := 125) dX8_back_101 (by decide) (by omega) (by omega) (fun h1 => ?_) (fun h1 => ?_)
    · skip
      refine aw_aload_n dX8_back_125 rfl ?_
      refine aw_getIv (v := I 69 2) dX8_back_126 flX8_88 hM.o (by rw [aw_wr_off _ _ (by decide), aw_wr_off _ _ (by decide), aw_wr_off _ _ (by decide), aw_up_self]) ?_
      exact aw_iret dX8_back_129 rfl ((by rw [show i = 36 from by omega]; exact hQ)) (Nat.zero_le _) (Nat.zero_le _)
    · skip
      refine aw_aload_n dX8_back_104 rfl ?_
      refine aw_getR dX8_back_105 flX8_20 hM.o hM.p5 ?_
      refine aw_iload_n dX8_back_108 rfl ?_
      refine aw_aload_n dX8_back_109 rfl ?_
      refine aw_getR dX8_back_110 flX8_23 hM.o hM.p7 ?_
      refine aw_pc (pc2 := 113) rfl ?_
      refine aw_bipush (v := nI 15) dX8_back_113 (by decide) ?_
      refine aw_iload_n dX8_back_115 rfl ?_
      refine aw_iaddN dX8_back_116 ?_
      refine aw_ialdv (v := I 69 (15 + i)) dX8_back_117 hM.s7 rfl (by omega) (congrFun (by simp (disch := omega) only [aw_cp_off, aw_up_off, aw_wr_off, aw_fill_off, aw_fr_off]) _) ?_
      refine aw_iast dX8_back_118 hM.s5 rfl (by omega) rfl ?_
      refine aw_iincN dX8_back_119 rfl (by decide) ?_
      refine aw_lv (lv2 := [.ref _, .int _]) rfl ?_
      refine aw_pc (pc2 := 122) rfl ?_
      refine aw_goto (t := 98) dX8_back_122 (by decide) ?_
      refine aw_toM (aw_wr_s0 (aw_wr (aw_wr (aw_up (aw_up (aw_up I 65 0 (I 69 0)) 65 3 (I 69 1)) 65 4 (I 69 2)) 66 0 9 (fun k => I 69 (3 + k))) 67 0 3 (fun k => I 69 (12 + k))) 68 i (fun k => I 69 (15 + k))) rfl ?_
      exact ih (i + 1) (by omega) (by omega)
theorem lX8_back2 {G : aw_G} {d : Nat} {Ω : aw_O} {I : aw_MI} {J : aw_MJ} {Q : Int32 → aw_O → aw_MI → aw_MJ → Prop} (hM : aw_model Ω 65) (hQ : Q (I 69 2) Ω (aw_wr (aw_wr (aw_wr (aw_up (aw_up (aw_up I 65 0 (I 69 0)) 65 3 (I 69 1)) 65 4 (I 69 2)) 66 0 9 (fun k => I 69 (3 + k))) 67 0 3 (fun k => I 69 (12 + k))) 68 0 36 (fun k => I 69 (15 + k))) J) : ∀ (z i : Nat), i ≤ 3 → 3 - i < z → AW G MX8_back (aw_nx Ω) d 0 0 (aw_QI Q) Ω (aw_wr (aw_wr (aw_up (aw_up (aw_up I 65 0 (I 69 0)) 65 3 (I 69 1)) 65 4 (I 69 2)) 66 0 9 (fun k => I 69 (3 + k))) 67 0 i (fun k => I 69 (12 + k))) J 0 0 [.ref (aw_ad G 65), .int (nI i)] 70 [] := by
  intro z
  induction z with
  | zero =>
    intro i h0 hz
    exact absurd hz (by omega)
  | succ z ih =>
    intro i h0 hz
    refine aw_iload_n dX8_back_70 rfl ?_
    refine aw_iconst (v := nI 3) dX8_back_71 (by decide) ?_
    refine aw_geN (t := 96) dX8_back_72 (by decide) (by omega) (by omega) (fun h1 => ?_) (fun h1 => ?_)
    · skip
      refine aw_iconst (v := nI 0) dX8_back_96 (by decide) ?_
      refine aw_istore_n dX8_back_97 (by decide) ?_
      refine aw_lv (lv2 := [.ref _, .int _]) rfl ?_
      rw [show i = 3 from by omega]
      refine aw_toM (aw_wr_0 (aw_wr (aw_wr (aw_up (aw_up (aw_up I 65 0 (I 69 0)) 65 3 (I 69 1)) 65 4 (I 69 2)) 66 0 9 (fun k => I 69 (3 + k))) 67 0 3 (fun k => I 69 (12 + k))) 68 0 (fun k => I 69 (15 + k))) rfl ?_
      exact lX8_back3 hM hQ 37 0 (by omega) (by omega)
    · skip
      refine aw_aload_n dX8_back_75 rfl ?_
      refine aw_getR dX8_back_76 flX8_17 hM.o hM.p2 ?_
      refine aw_iload_n dX8_back_79 rfl ?_
      refine aw_aload_n dX8_back_80 rfl ?_
      refine aw_getR dX8_back_81 flX8_23 hM.o hM.p7 ?_
      refine aw_pc (pc2 := 84) rfl ?_
      refine aw_bipush (v := nI 12) dX8_back_84 (by decide) ?_
      refine aw_iload_n dX8_back_86 rfl ?_
      refine aw_iaddN dX8_back_87 ?_
      refine aw_ialdv (v := I 69 (12 + i)) dX8_back_88 hM.s7 rfl (by omega) (congrFun (by simp (disch := omega) only [aw_cp_off, aw_up_off, aw_wr_off, aw_fill_off, aw_fr_off]) _) ?_
      refine aw_iast dX8_back_89 hM.s2 rfl (by omega) rfl ?_
      refine aw_iincN dX8_back_90 rfl (by decide) ?_
      refine aw_lv (lv2 := [.ref _, .int _]) rfl ?_
      refine aw_pc (pc2 := 93) rfl ?_
      refine aw_goto (t := 70) dX8_back_93 (by decide) ?_
      refine aw_toM (aw_wr_s0 (aw_wr (aw_up (aw_up (aw_up I 65 0 (I 69 0)) 65 3 (I 69 1)) 65 4 (I 69 2)) 66 0 9 (fun k => I 69 (3 + k))) 67 i (fun k => I 69 (12 + k))) rfl ?_
      exact ih (i + 1) (by omega) (by omega)
theorem lX8_back1 {G : aw_G} {d : Nat} {Ω : aw_O} {I : aw_MI} {J : aw_MJ} {Q : Int32 → aw_O → aw_MI → aw_MJ → Prop} (hM : aw_model Ω 65) (hQ : Q (I 69 2) Ω (aw_wr (aw_wr (aw_wr (aw_up (aw_up (aw_up I 65 0 (I 69 0)) 65 3 (I 69 1)) 65 4 (I 69 2)) 66 0 9 (fun k => I 69 (3 + k))) 67 0 3 (fun k => I 69 (12 + k))) 68 0 36 (fun k => I 69 (15 + k))) J) : ∀ (z i : Nat), i ≤ 9 → 9 - i < z → AW G MX8_back (aw_nx Ω) d 0 0 (aw_QI Q) Ω (aw_wr (aw_up (aw_up (aw_up I 65 0 (I 69 0)) 65 3 (I 69 1)) 65 4 (I 69 2)) 66 0 i (fun k => I 69 (3 + k))) J 0 0 [.ref (aw_ad G 65), .int (nI i)] 42 [] := by
  intro z
  induction z with
  | zero =>
    intro i h0 hz
    exact absurd hz (by omega)
  | succ z ih =>
    intro i h0 hz
    refine aw_iload_n dX8_back_42 rfl ?_
    refine aw_bipush (v := nI 9) dX8_back_43 (by decide) ?_
    refine aw_geN (t := 68) dX8_back_45 (by decide) (by omega) (by omega) (fun h1 => ?_) (fun h1 => ?_)
    · skip
      refine aw_iconst (v := nI 0) dX8_back_68 (by decide) ?_
      refine aw_istore_n dX8_back_69 (by decide) ?_
      refine aw_lv (lv2 := [.ref _, .int _]) rfl ?_
      rw [show i = 9 from by omega]
      refine aw_toM (aw_wr_0 (aw_wr (aw_up (aw_up (aw_up I 65 0 (I 69 0)) 65 3 (I 69 1)) 65 4 (I 69 2)) 66 0 9 (fun k => I 69 (3 + k))) 67 0 (fun k => I 69 (12 + k))) rfl ?_
      exact lX8_back2 hM hQ 4 0 (by omega) (by omega)
    · skip
      refine aw_aload_n dX8_back_48 rfl ?_
      refine aw_getR dX8_back_49 flX8_13 hM.o hM.p1 ?_
      refine aw_iload_n dX8_back_52 rfl ?_
      refine aw_aload_n dX8_back_53 rfl ?_
      refine aw_getR dX8_back_54 flX8_23 hM.o hM.p7 ?_
      refine aw_pc (pc2 := 57) rfl ?_
      refine aw_iconst (v := nI 3) dX8_back_57 (by decide) ?_
      refine aw_iload_n dX8_back_58 rfl ?_
      refine aw_iaddN dX8_back_59 ?_
      refine aw_ialdv (v := I 69 (3 + i)) dX8_back_60 hM.s7 rfl (by omega) (congrFun (by simp (disch := omega) only [aw_cp_off, aw_up_off, aw_wr_off, aw_fill_off, aw_fr_off]) _) ?_
      refine aw_iast dX8_back_61 hM.s1 rfl (by omega) rfl ?_
      refine aw_iincN dX8_back_62 rfl (by decide) ?_
      refine aw_lv (lv2 := [.ref _, .int _]) rfl ?_
      refine aw_pc (pc2 := 65) rfl ?_
      refine aw_goto (t := 42) dX8_back_65 (by decide) ?_
      refine aw_toM (aw_wr_s0 (aw_up (aw_up (aw_up I 65 0 (I 69 0)) 65 3 (I 69 1)) 65 4 (I 69 2)) 66 i (fun k => I 69 (3 + k))) rfl ?_
      exact ih (i + 1) (by omega) (by omega)
theorem tX8_back {G : aw_G} {d : Nat} {Ω : aw_O} {I : aw_MI} {J : aw_MJ} {Q : Int32 → aw_O → aw_MI → aw_MJ → Prop} (hM : aw_model Ω 65) (k1 : I 65 6 = 0 → Q (-3) Ω I J) (hQ : ¬ I 65 6 = 0 → Q (I 69 2) Ω (aw_wr (aw_wr (aw_wr (aw_up (aw_up (aw_up I 65 0 (I 69 0)) 65 3 (I 69 1)) 65 4 (I 69 2)) 66 0 9 (fun k => I 69 (3 + k))) 67 0 3 (fun k => I 69 (12 + k))) 68 0 36 (fun k => I 69 (15 + k))) J) : aw_Call G MX8_back d 0 0 [.ref (aw_ad G 65)] Ω I J (aw_QI Q) := by
  refine aw_enter (by decide +kernel) rfl (Nat.le_of_ble_eq_true rfl) ?_
  show AW G MX8_back (aw_nx Ω) d 0 0 (aw_QI Q) Ω I J 0 0 [.ref (aw_ad G 65), .null] 0 []
  refine aw_aload_n dX8_back_0 rfl ?_
  refine aw_getZ dX8_back_1 flX8_286 hM.o ?_
  refine aw_if_ne (t := 10) dX8_back_4 (by decide) (fun h1 => ?_) (fun h1 => ?_)
  · skip
    refine aw_aload_n dX8_back_10 rfl ?_
    refine aw_aload_n dX8_back_11 rfl ?_
    refine aw_getR dX8_back_12 flX8_23 hM.o hM.p7 ?_
    refine aw_iconst (v := nI 0) dX8_back_15 (by decide) ?_
    refine aw_ialdv (v := I 69 0) dX8_back_16 hM.s7 rfl (by omega) (congrFun (by simp (disch := omega) only [aw_cp_off, aw_up_off, aw_wr_off, aw_fill_off, aw_fr_off]) _) ?_
    refine aw_pc (pc2 := 17) rfl ?_
    refine aw_putI dX8_back_17 fwX8_7 hM.o rfl ?_
    refine aw_aload_n dX8_back_20 rfl ?_
    refine aw_aload_n dX8_back_21 rfl ?_
    refine aw_getR dX8_back_22 flX8_23 hM.o hM.p7 ?_
    refine aw_iconst (v := nI 1) dX8_back_25 (by decide) ?_
    refine aw_ialdv (v := I 69 1) dX8_back_26 hM.s7 rfl (by omega) (congrFun (by simp (disch := omega) only [aw_cp_off, aw_up_off, aw_wr_off, aw_fill_off, aw_fr_off]) _) ?_
    refine aw_pc (pc2 := 27) rfl ?_
    refine aw_putI dX8_back_27 fwX8_93 hM.o rfl ?_
    refine aw_aload_n dX8_back_30 rfl ?_
    refine aw_aload_n dX8_back_31 rfl ?_
    refine aw_getR dX8_back_32 flX8_23 hM.o hM.p7 ?_
    refine aw_iconst (v := nI 2) dX8_back_35 (by decide) ?_
    refine aw_ialdv (v := I 69 2) dX8_back_36 hM.s7 rfl (by omega) (congrFun (by simp (disch := omega) only [aw_cp_off, aw_up_off, aw_wr_off, aw_fill_off, aw_fr_off]) _) ?_
    refine aw_pc (pc2 := 37) rfl ?_
    refine aw_putI dX8_back_37 fwX8_88 hM.o rfl ?_
    refine aw_iconst (v := nI 0) dX8_back_40 (by decide) ?_
    refine aw_istore_n dX8_back_41 (by decide) ?_
    refine aw_lv (lv2 := [.ref _, .int _]) rfl ?_
    refine aw_toM (aw_wr_0 (aw_up (aw_up (aw_up I 65 0 (I 69 0)) 65 3 (I 69 1)) 65 4 (I 69 2)) 66 0 (fun k => I 69 (3 + k))) rfl ?_
    exact lX8_back1 hM (hQ h1) 10 0 (by omega) (by omega)
  · skip
    refine aw_bipush (v := -3) dX8_back_7 (by decide) ?_
    exact aw_iret dX8_back_9 rfl (k1 h1) (Nat.zero_le _) (Nat.zero_le _)
theorem lX8_count {G : aw_G} {d : Nat} {Ω : aw_O} {I : aw_MI} {J : aw_MJ} {Q : Int32 → aw_O → aw_MI → aw_MJ → Prop} {n m t : Nat} (hM : aw_model Ω 65) (hn : I 65 0 = nI n) (hm : I 65 4 = nI m) (hm6 : m ≤ 6) (ht : I 65 3 = nI t) (hd : 1 ≤ d) {x : Int32} (hQ0 : x = nI 0 → Q (nI n) Ω I J) (hQ1 : x = nI 1 → Q (nI m) Ω I J) (hQ2 : x = nI 2 → Q (nI t) Ω I J) (hQ3 : x = nI 3 → Q (sp_cnt (fun l => I 68 (6 * l)) m) Ω I J) (hQ4 : ¬ x = nI 0 → ¬ x = nI 1 → ¬ x = nI 2 → ¬ x = nI 3 → Q (-2) Ω I J) : ∀ (z i : Nat), i ≤ m → m - i < z → AW G MX8_count (aw_nx Ω) d 0 0 (aw_QI Q) Ω I J 0 0 [.ref (aw_ad G 65), .int x, .int (sp_cnt (fun l => I 68 (6 * l)) i), .int (nI i)] 4 [] := by
  intro z
  induction z with
  | zero =>
    intro i h0 hz
    exact absurd hz (by omega)
  | succ z ih =>
    intro i h0 hz
    refine aw_iload_n dX8_count_4 rfl ?_
    refine aw_aload_n dX8_count_5 rfl ?_
    refine aw_getIv (v := nI m) dX8_count_6 flX8_88 hM.o hm ?_
    refine aw_geN (t := 34) dX8_count_9 (by decide) (by omega) (by omega) (fun h1 => ?_) (fun h1 => ?_)
    · skip
      refine aw_iload_n dX8_count_34 rfl ?_
      refine aw_if_ne (t := 45) dX8_count_35 (by decide) (fun h2 => ?_) (fun h2 => ?_)
      · skip
        refine aw_iload_n dX8_count_45 rfl ?_
        refine aw_iconst (v := nI 1) dX8_count_46 (by decide) ?_
        refine aw_icmp_ne (t := 57) dX8_count_47 (by decide) (fun h3 => ?_) (fun h3 => ?_)
        · skip
          refine aw_iload_n dX8_count_57 rfl ?_
          refine aw_iconst (v := nI 2) dX8_count_58 (by decide) ?_
          refine aw_icmp_ne (t := 69) dX8_count_59 (by decide) (fun h4 => ?_) (fun h4 => ?_)
          · skip
            refine aw_iload_n dX8_count_69 rfl ?_
            refine aw_iconst (v := nI 3) dX8_count_70 (by decide) ?_
            refine aw_icmp_ne (t := 78) dX8_count_71 (by decide) (fun h5 => ?_) (fun h5 => ?_)
            · skip
              refine aw_bipush (v := -2) dX8_count_78 (by decide) ?_
              exact aw_iret dX8_count_80 rfl (hQ4 h2 h3 h4 h5) (Nat.zero_le _) (Nat.zero_le _)
            · skip
              refine aw_iload_n dX8_count_74 rfl ?_
              refine aw_goto (t := 80) dX8_count_75 (by decide) ?_
              exact aw_iret dX8_count_80 rfl ((by rw [show i = m from by omega]; exact hQ3 h5)) (Nat.zero_le _) (Nat.zero_le _)
          · skip
            refine aw_aload_n dX8_count_62 rfl ?_
            refine aw_getIv (v := nI t) dX8_count_63 flX8_93 hM.o ht ?_
            refine aw_goto (t := 80) dX8_count_66 (by decide) ?_
            exact aw_iret dX8_count_80 rfl (hQ2 h4) (Nat.zero_le _) (Nat.zero_le _)
        · skip
          refine aw_aload_n dX8_count_50 rfl ?_
          refine aw_getIv (v := nI m) dX8_count_51 flX8_88 hM.o hm ?_
          refine aw_goto (t := 80) dX8_count_54 (by decide) ?_
          exact aw_iret dX8_count_80 rfl (hQ1 h3) (Nat.zero_le _) (Nat.zero_le _)
      · skip
        refine aw_aload_n dX8_count_38 rfl ?_
        refine aw_getIv (v := nI n) dX8_count_39 flX8_7 hM.o hn ?_
        refine aw_goto (t := 80) dX8_count_42 (by decide) ?_
        exact aw_iret dX8_count_80 rfl (hQ0 h2) (Nat.zero_le _) (Nat.zero_le _)
    · skip
      refine aw_iload_n dX8_count_12 rfl ?_
      refine aw_aload_n dX8_count_13 rfl ?_
      refine aw_iload_n dX8_count_14 rfl ?_
      refine aw_cvI (As := [_]) (d' := d - 1) dX8_count_15 lkX8_175 hM.o (by omega) rfl rfl (Nat.le_of_ble_eq_true rfl) ⟨Nat.le_refl _, Nat.le_refl _⟩ (tX8_isOn hM (by omega) ?_)
      refine aw_if_eq (t := 25) dX8_count_18 (by decide) (fun h6 => ?_) (fun h6 => ?_)
      · skip
        refine aw_iconst (v := nI 0) dX8_count_25 (by decide) ?_
        refine aw_iadd dX8_count_26 ?_
        refine aw_istore_n dX8_count_27 (by decide) ?_
        refine aw_lv (lv2 := [.ref _, .int _, .int _, .int _]) rfl ?_
        refine aw_iincN dX8_count_28 rfl (by decide) ?_
        refine aw_lv (lv2 := [.ref _, .int _, .int _, .int _]) rfl ?_
        refine aw_goto (t := 4) dX8_count_31 (by decide) ?_
        rw [sp_cnt_s (f := fun l => I 68 (6 * l)) h6]
        exact ih (i + 1) (by omega) (by omega)
      · skip
        refine aw_iconst (v := nI 1) dX8_count_21 (by decide) ?_
        refine aw_goto (t := 26) dX8_count_22 (by decide) ?_
        refine aw_iadd dX8_count_26 ?_
        refine aw_istore_n dX8_count_27 (by decide) ?_
        refine aw_lv (lv2 := [.ref _, .int _, .int _, .int _]) rfl ?_
        refine aw_iincN dX8_count_28 rfl (by decide) ?_
        refine aw_lv (lv2 := [.ref _, .int _, .int _, .int _]) rfl ?_
        refine aw_goto (t := 4) dX8_count_31 (by decide) ?_
        rw [sp_cnt_t (f := fun l => I 68 (6 * l)) h6]
        exact ih (i + 1) (by omega) (by omega)
theorem tX8_count {G : aw_G} {d : Nat} {Ω : aw_O} {I : aw_MI} {J : aw_MJ} {Q : Int32 → aw_O → aw_MI → aw_MJ → Prop} {n m t : Nat} (hM : aw_model Ω 65) (hn : I 65 0 = nI n) (hm : I 65 4 = nI m) (hm6 : m ≤ 6) (ht : I 65 3 = nI t) (hd : 1 ≤ d) {x : Int32} (hQ0 : x = nI 0 → Q (nI n) Ω I J) (hQ1 : x = nI 1 → Q (nI m) Ω I J) (hQ2 : x = nI 2 → Q (nI t) Ω I J) (hQ3 : x = nI 3 → Q (sp_cnt (fun l => I 68 (6 * l)) m) Ω I J) (hQ4 : ¬ x = nI 0 → ¬ x = nI 1 → ¬ x = nI 2 → ¬ x = nI 3 → Q (-2) Ω I J) : aw_Call G MX8_count d 0 0 [.ref (aw_ad G 65), .int x] Ω I J (aw_QI Q) := by
  refine aw_enter (by decide +kernel) rfl (Nat.le_of_ble_eq_true rfl) ?_
  show AW G MX8_count (aw_nx Ω) d 0 0 (aw_QI Q) Ω I J 0 0 [.ref (aw_ad G 65), .int x, .null, .null] 0 []
  refine aw_iconst (v := nI 0) dX8_count_0 (by decide) ?_
  refine aw_istore_n dX8_count_1 (by decide) ?_
  refine aw_lv (lv2 := [.ref _, .int _, .int _, .null]) rfl ?_
  refine aw_iconst (v := nI 0) dX8_count_2 (by decide) ?_
  refine aw_istore_n dX8_count_3 (by decide) ?_
  refine aw_lv (lv2 := [.ref _, .int _, .int _, .int _]) rfl ?_
  exact lX8_count hM hn hm hm6 ht hd hQ0 hQ1 hQ2 hQ3 hQ4 (m + 1) 0 (by omega) (by omega)

def rp_rb (kd : Nat → Int32) (y sl : Nat → Int64) (x : Int32) (l : Nat) : Bool := decide ((x >>> (nI l &&& 31) &&& nI 1 = 0 ∨ ¬ sp_held (kd l) (sl l) = 0) ∧ (¬ sp_on (kd l) = 0 ∨ ¬ y l < 0))
def rp_rt (I : aw_MI) (J : aw_MJ) (n S : Nat) : Nat → Bool := rp_rb (fun l => I 68 (6 * l)) (J 74) (rp_slk I J n) (nI S)
theorem lX8_isRight0 {G : aw_G} {d : Nat} {Ω : aw_O} {I : aw_MI} {J : aw_MJ} {Q : Int32 → aw_O → aw_MI → aw_MJ → Prop} {n m S : Nat} (hM : aw_model Ω 65) (hn : I 65 0 = nI n) (hn3 : n ≤ 3) (hm : I 65 4 = nI m) (hm6 : m ≤ 6) (hS : S < 2 ^ m) (hd : 3 ≤ d) {l : Nat} (hl : l ≤ m) (hQ : Q (nI 0) Ω I J) : AW G MX8_isRight (aw_nx Ω) d 0 0 (aw_QI Q) Ω I J 0 0 [.ref (aw_ad G 65), .int (nI S), .int (nI 0), .int (nI l)] 4 [] := by
  refine aw_iload_n dX8_isRight_4 rfl ?_
  refine aw_aload_n dX8_isRight_5 rfl ?_
  refine aw_getIv (v := nI m) dX8_isRight_6 flX8_88 hM.o hm ?_
  refine aw_geN (t := 63) dX8_isRight_9 (by decide) (by omega) (by omega) (fun h1 => ?_) (fun h1 => ?_)
  · skip
    refine aw_iload_n dX8_isRight_63 rfl ?_
    exact aw_zret dX8_isRight_64 rfl (by decide) (hQ) (Nat.zero_le _) (Nat.zero_le _)
  · skip
    refine aw_iload_n dX8_isRight_12 rfl ?_
    refine aw_if_eq (t := 63) dX8_isRight_13 (by decide) (fun h2 => ?_) (fun h2 => absurd h2 (by decide))
    refine aw_iload_n dX8_isRight_63 rfl ?_
    exact aw_zret dX8_isRight_64 rfl (by decide) (hQ) (Nat.zero_le _) (Nat.zero_le _)
theorem lX8_isRight {G : aw_G} {d : Nat} {Ω : aw_O} {I : aw_MI} {J : aw_MJ} {Q : Int32 → aw_O → aw_MI → aw_MJ → Prop} {n m S : Nat} (hM : aw_model Ω 65) (hn : I 65 0 = nI n) (hn3 : n ≤ 3) (hm : I 65 4 = nI m) (hm6 : m ≤ 6) (hS : S < 2 ^ m) (hd : 3 ≤ d)  : ∀ (z l : Nat), l ≤ m → m - l < z → Q (sp_al (rp_rt I J n S) l (m - l)) Ω I J → AW G MX8_isRight (aw_nx Ω) d 0 0 (aw_QI Q) Ω I J 0 0 [.ref (aw_ad G 65), .int (nI S), .int (nI 1), .int (nI l)] 4 [] := by
  intro z
  induction z with
  | zero =>
    intro l h0 hz hQ
    exact absurd hz (by omega)
  | succ z ih =>
    intro l h0 hz hQ
    refine aw_iload_n dX8_isRight_4 rfl ?_
    refine aw_aload_n dX8_isRight_5 rfl ?_
    refine aw_getIv (v := nI m) dX8_isRight_6 flX8_88 hM.o hm ?_
    refine aw_geN (t := 63) dX8_isRight_9 (by decide) (by omega) (by omega) (fun h1 => ?_) (fun h1 => ?_)
    · skip
      refine aw_iload_n dX8_isRight_63 rfl ?_
      exact aw_zret dX8_isRight_64 rfl (by decide) ((by rw [show m - l = 0 by omega] at hQ; exact hQ)) (Nat.zero_le _) (Nat.zero_le _)
    · skip
      refine aw_iload_n dX8_isRight_12 rfl ?_
      refine aw_if_eq (t := 63) dX8_isRight_13 (by decide) (fun h2 => absurd h2 (by decide)) (fun h2 => ?_)
      refine aw_iload_n dX8_isRight_16 rfl ?_
      refine aw_iload_n dX8_isRight_17 rfl ?_
      refine aw_csI (As := [_, _]) (d' := d - 1) dX8_isRight_18 lkX8_135 (by omega) rfl rfl (Nat.le_of_ble_eq_true rfl) ⟨Nat.le_refl _, Nat.le_refl _⟩ (tX8_has ?_)
      refine aw_pc (pc2 := 21) rfl ?_
      refine aw_if_eq (t := 32) dX8_isRight_21 (by decide) (fun h3 => ?_) (fun h3 => ?_)
      · skip
        refine aw_aload_n dX8_isRight_32 rfl ?_
        refine aw_iload_n dX8_isRight_33 rfl ?_
        refine aw_cvI (As := [_]) (d' := d - 1) dX8_isRight_34 lkX8_175 hM.o (by omega) rfl rfl (Nat.le_of_ble_eq_true rfl) ⟨Nat.le_refl _, Nat.le_refl _⟩ (tX8_isOn hM (by omega) ?_)
        refine aw_if_ne (t := 51) dX8_isRight_37 (by decide) (fun h4 => ?_) (fun h4 => ?_)
        · skip
          refine aw_iconst (v := nI 1) dX8_isRight_51 (by decide) ?_
          refine aw_goto (t := 56) dX8_isRight_52 (by decide) ?_
          refine aw_istore_n dX8_isRight_56 (by decide) ?_
          refine aw_lv (lv2 := [.ref _, .int _, .int _, .int _]) rfl ?_
          refine aw_iincN dX8_isRight_57 rfl (by decide) ?_
          refine aw_lv (lv2 := [.ref _, .int _, .int _, .int _]) rfl ?_
          refine aw_goto (t := 4) dX8_isRight_60 (by decide) ?_
          try simp only [lcmpE, lcmpL, lcmpG, lcmpLE, lcmpGT, nrm_le, nrm_le64, Classical.not_not] at h3
          try simp only [lcmpE, lcmpL, lcmpG, lcmpLE, lcmpGT, nrm_le, nrm_le64, Classical.not_not] at h4
          have h64 : 2 ^ m ≤ 2 ^ 6 := Nat.pow_le_pow_right (by decide) hm6
          have hb : nI S >>> (nI l &&& 31) &&& nI 1 = 0 := (has_ok S (by omega) l (by omega)).mp h3
          have hf : rp_rt I J n S l = true := decide_eq_true ⟨Or.inl hb, Or.inl h4⟩
          rw [show m - l = (m - l - 1) + 1 by omega, sp_al, if_pos hf] at hQ
          exact ih (l + 1) (by omega) (by omega) (by rw [show m - (l + 1) = m - l - 1 by omega]; exact hQ)
        · skip
          refine aw_aload_n dX8_isRight_40 rfl ?_
          refine aw_getR dX8_isRight_41 flX8_39 hM.o hM.p17 ?_
          refine aw_iload_n dX8_isRight_44 rfl ?_
          refine aw_lald dX8_isRight_45 hM.s17 rfl (by omega) ?_
          refine aw_lconst (v := 0) dX8_isRight_46 (by decide) ?_
          refine aw_pc (pc2 := 47) rfl ?_
          refine aw_lcmp dX8_isRight_47 ?_
          refine aw_if_lt (t := 55) dX8_isRight_48 (by decide) (fun h5 => ?_) (fun h5 => ?_)
          · skip
            refine aw_iconst (v := nI 0) dX8_isRight_55 (by decide) ?_
            refine aw_istore_n dX8_isRight_56 (by decide) ?_
            refine aw_lv (lv2 := [.ref _, .int _, .int _, .int _]) rfl ?_
            refine aw_iincN dX8_isRight_57 rfl (by decide) ?_
            refine aw_lv (lv2 := [.ref _, .int _, .int _, .int _]) rfl ?_
            refine aw_goto (t := 4) dX8_isRight_60 (by decide) ?_
            try simp only [lcmpE, lcmpL, lcmpG, lcmpLE, lcmpGT, nrm_le, nrm_le64, Classical.not_not] at h3
            try simp only [lcmpE, lcmpL, lcmpG, lcmpLE, lcmpGT, nrm_le, nrm_le64, Classical.not_not] at h4
            try simp only [lcmpE, lcmpL, lcmpG, lcmpLE, lcmpGT, nrm_le, nrm_le64, Classical.not_not] at h5
            have h64 : 2 ^ m ≤ 2 ^ 6 := Nat.pow_le_pow_right (by decide) hm6
            have hb : nI S >>> (nI l &&& 31) &&& nI 1 = 0 := (has_ok S (by omega) l (by omega)).mp h3
            have hf : ¬ rp_rt I J n S l = true := fun q7 => (of_decide_eq_true q7).2.elim (fun q8 => q8 h4) (fun q8 => q8 h5)
            rw [show m - l = (m - l - 1) + 1 by omega, sp_al, if_neg hf] at hQ
            exact lX8_isRight0 hM hn hn3 hm hm6 hS hd (by omega) hQ
          · skip
            refine aw_iconst (v := nI 1) dX8_isRight_51 (by decide) ?_
            refine aw_goto (t := 56) dX8_isRight_52 (by decide) ?_
            refine aw_istore_n dX8_isRight_56 (by decide) ?_
            refine aw_lv (lv2 := [.ref _, .int _, .int _, .int _]) rfl ?_
            refine aw_iincN dX8_isRight_57 rfl (by decide) ?_
            refine aw_lv (lv2 := [.ref _, .int _, .int _, .int _]) rfl ?_
            refine aw_goto (t := 4) dX8_isRight_60 (by decide) ?_
            try simp only [lcmpE, lcmpL, lcmpG, lcmpLE, lcmpGT, nrm_le, nrm_le64, Classical.not_not] at h3
            try simp only [lcmpE, lcmpL, lcmpG, lcmpLE, lcmpGT, nrm_le, nrm_le64, Classical.not_not] at h4
            try simp only [lcmpE, lcmpL, lcmpG, lcmpLE, lcmpGT, nrm_le, nrm_le64, Classical.not_not] at h5
            have h64 : 2 ^ m ≤ 2 ^ 6 := Nat.pow_le_pow_right (by decide) hm6
            have hb : nI S >>> (nI l &&& 31) &&& nI 1 = 0 := (has_ok S (by omega) l (by omega)).mp h3
            have hf : rp_rt I J n S l = true := decide_eq_true ⟨Or.inl hb, Or.inr h5⟩
            rw [show m - l = (m - l - 1) + 1 by omega, sp_al, if_pos hf] at hQ
            exact ih (l + 1) (by omega) (by omega) (by rw [show m - (l + 1) = m - l - 1 by omega]; exact hQ)
      · skip
        refine aw_aload_n dX8_isRight_24 rfl ?_
        refine aw_iload_n dX8_isRight_25 rfl ?_
        refine aw_cvI (As := [_]) (d' := d - 1) dX8_isRight_26 lkX8_178 hM.o (by omega) rfl rfl (Nat.le_of_ble_eq_true rfl) ⟨Nat.le_refl _, Nat.le_refl _⟩ (tX8_holds hM hn hn3 (by omega) (by omega) ?_)
        refine aw_if_eq (t := 55) dX8_isRight_29 (by decide) (fun h6 => ?_) (fun h6 => ?_)
        · skip
          refine aw_iconst (v := nI 0) dX8_isRight_55 (by decide) ?_
          refine aw_istore_n dX8_isRight_56 (by decide) ?_
          refine aw_lv (lv2 := [.ref _, .int _, .int _, .int _]) rfl ?_
          refine aw_iincN dX8_isRight_57 rfl (by decide) ?_
          refine aw_lv (lv2 := [.ref _, .int _, .int _, .int _]) rfl ?_
          refine aw_goto (t := 4) dX8_isRight_60 (by decide) ?_
          try simp only [lcmpE, lcmpL, lcmpG, lcmpLE, lcmpGT, nrm_le, nrm_le64, Classical.not_not] at h3
          try simp only [lcmpE, lcmpL, lcmpG, lcmpLE, lcmpGT, nrm_le, nrm_le64, Classical.not_not] at h6
          have h64 : 2 ^ m ≤ 2 ^ 6 := Nat.pow_le_pow_right (by decide) hm6
          have hb : ¬ nI S >>> (nI l &&& 31) &&& nI 1 = 0 := fun q => h3 ((has_ok S (by omega) l (by omega)).mpr q)
          have hf : ¬ rp_rt I J n S l = true := fun q7 => (of_decide_eq_true q7).1.elim (fun q8 => hb q8) (fun q8 => q8 h6)
          rw [show m - l = (m - l - 1) + 1 by omega, sp_al, if_neg hf] at hQ
          exact lX8_isRight0 hM hn hn3 hm hm6 hS hd (by omega) hQ
        · skip
          refine aw_aload_n dX8_isRight_32 rfl ?_
          refine aw_iload_n dX8_isRight_33 rfl ?_
          refine aw_cvI (As := [_]) (d' := d - 1) dX8_isRight_34 lkX8_175 hM.o (by omega) rfl rfl (Nat.le_of_ble_eq_true rfl) ⟨Nat.le_refl _, Nat.le_refl _⟩ (tX8_isOn hM (by omega) ?_)
          refine aw_if_ne (t := 51) dX8_isRight_37 (by decide) (fun h7 => ?_) (fun h7 => ?_)
          · skip
            refine aw_iconst (v := nI 1) dX8_isRight_51 (by decide) ?_
            refine aw_goto (t := 56) dX8_isRight_52 (by decide) ?_
            refine aw_istore_n dX8_isRight_56 (by decide) ?_
            refine aw_lv (lv2 := [.ref _, .int _, .int _, .int _]) rfl ?_
            refine aw_iincN dX8_isRight_57 rfl (by decide) ?_
            refine aw_lv (lv2 := [.ref _, .int _, .int _, .int _]) rfl ?_
            refine aw_goto (t := 4) dX8_isRight_60 (by decide) ?_
            try simp only [lcmpE, lcmpL, lcmpG, lcmpLE, lcmpGT, nrm_le, nrm_le64, Classical.not_not] at h3
            try simp only [lcmpE, lcmpL, lcmpG, lcmpLE, lcmpGT, nrm_le, nrm_le64, Classical.not_not] at h6
            try simp only [lcmpE, lcmpL, lcmpG, lcmpLE, lcmpGT, nrm_le, nrm_le64, Classical.not_not] at h7
            have h64 : 2 ^ m ≤ 2 ^ 6 := Nat.pow_le_pow_right (by decide) hm6
            have hb : ¬ nI S >>> (nI l &&& 31) &&& nI 1 = 0 := fun q => h3 ((has_ok S (by omega) l (by omega)).mpr q)
            have hf : rp_rt I J n S l = true := decide_eq_true ⟨Or.inr h6, Or.inl h7⟩
            rw [show m - l = (m - l - 1) + 1 by omega, sp_al, if_pos hf] at hQ
            exact ih (l + 1) (by omega) (by omega) (by rw [show m - (l + 1) = m - l - 1 by omega]; exact hQ)
          · skip
            refine aw_aload_n dX8_isRight_40 rfl ?_
            refine aw_getR dX8_isRight_41 flX8_39 hM.o hM.p17 ?_
            refine aw_iload_n dX8_isRight_44 rfl ?_
            refine aw_lald dX8_isRight_45 hM.s17 rfl (by omega) ?_
            refine aw_lconst (v := 0) dX8_isRight_46 (by decide) ?_
            refine aw_pc (pc2 := 47) rfl ?_
            refine aw_lcmp dX8_isRight_47 ?_
            refine aw_if_lt (t := 55) dX8_isRight_48 (by decide) (fun h8 => ?_) (fun h8 => ?_)
            · skip
              refine aw_iconst (v := nI 0) dX8_isRight_55 (by decide) ?_
              refine aw_istore_n dX8_isRight_56 (by decide) ?_
              refine aw_lv (lv2 := [.ref _, .int _, .int _, .int _]) rfl ?_
              refine aw_iincN dX8_isRight_57 rfl (by decide) ?_
              refine aw_lv (lv2 := [.ref _, .int _, .int _, .int _]) rfl ?_
              refine aw_goto (t := 4) dX8_isRight_60 (by decide) ?_
              try simp only [lcmpE, lcmpL, lcmpG, lcmpLE, lcmpGT, nrm_le, nrm_le64, Classical.not_not] at h3
              try simp only [lcmpE, lcmpL, lcmpG, lcmpLE, lcmpGT, nrm_le, nrm_le64, Classical.not_not] at h6
              try simp only [lcmpE, lcmpL, lcmpG, lcmpLE, lcmpGT, nrm_le, nrm_le64, Classical.not_not] at h7
              try simp only [lcmpE, lcmpL, lcmpG, lcmpLE, lcmpGT, nrm_le, nrm_le64, Classical.not_not] at h8
              have h64 : 2 ^ m ≤ 2 ^ 6 := Nat.pow_le_pow_right (by decide) hm6
              have hb : ¬ nI S >>> (nI l &&& 31) &&& nI 1 = 0 := fun q => h3 ((has_ok S (by omega) l (by omega)).mpr q)
              have hf : ¬ rp_rt I J n S l = true := fun q7 => (of_decide_eq_true q7).2.elim (fun q8 => q8 h7) (fun q8 => q8 h8)
              rw [show m - l = (m - l - 1) + 1 by omega, sp_al, if_neg hf] at hQ
              exact lX8_isRight0 hM hn hn3 hm hm6 hS hd (by omega) hQ
            · skip
              refine aw_iconst (v := nI 1) dX8_isRight_51 (by decide) ?_
              refine aw_goto (t := 56) dX8_isRight_52 (by decide) ?_
              refine aw_istore_n dX8_isRight_56 (by decide) ?_
              refine aw_lv (lv2 := [.ref _, .int _, .int _, .int _]) rfl ?_
              refine aw_iincN dX8_isRight_57 rfl (by decide) ?_
              refine aw_lv (lv2 := [.ref _, .int _, .int _, .int _]) rfl ?_
              refine aw_goto (t := 4) dX8_isRight_60 (by decide) ?_
              try simp only [lcmpE, lcmpL, lcmpG, lcmpLE, lcmpGT, nrm_le, nrm_le64, Classical.not_not] at h3
              try simp only [lcmpE, lcmpL, lcmpG, lcmpLE, lcmpGT, nrm_le, nrm_le64, Classical.not_not] at h6
              try simp only [lcmpE, lcmpL, lcmpG, lcmpLE, lcmpGT, nrm_le, nrm_le64, Classical.not_not] at h7
              try simp only [lcmpE, lcmpL, lcmpG, lcmpLE, lcmpGT, nrm_le, nrm_le64, Classical.not_not] at h8
              have h64 : 2 ^ m ≤ 2 ^ 6 := Nat.pow_le_pow_right (by decide) hm6
              have hb : ¬ nI S >>> (nI l &&& 31) &&& nI 1 = 0 := fun q => h3 ((has_ok S (by omega) l (by omega)).mpr q)
              have hf : rp_rt I J n S l = true := decide_eq_true ⟨Or.inr h6, Or.inr h8⟩
              rw [show m - l = (m - l - 1) + 1 by omega, sp_al, if_pos hf] at hQ
              exact ih (l + 1) (by omega) (by omega) (by rw [show m - (l + 1) = m - l - 1 by omega]; exact hQ)
theorem tX8_isRight {G : aw_G} {d : Nat} {Ω : aw_O} {I : aw_MI} {J : aw_MJ} {Q : Int32 → aw_O → aw_MI → aw_MJ → Prop} {n m S : Nat} (hM : aw_model Ω 65) (hn : I 65 0 = nI n) (hn3 : n ≤ 3) (hm : I 65 4 = nI m) (hm6 : m ≤ 6) (hS : S < 2 ^ m) (hd : 3 ≤ d) (hQ : Q (sp_al (rp_rt I J n S) 0 m) Ω I J) : aw_Call G MX8_isRight d 0 0 [.ref (aw_ad G 65), .int (nI S)] Ω I J (aw_QI Q) := by
  refine aw_enter (by decide +kernel) rfl (Nat.le_of_ble_eq_true rfl) ?_
  show AW G MX8_isRight (aw_nx Ω) d 0 0 (aw_QI Q) Ω I J 0 0 [.ref (aw_ad G 65), .int (nI S), .null, .null] 0 []
  refine aw_iconst (v := nI 1) dX8_isRight_0 (by decide) ?_
  refine aw_istore_n dX8_isRight_1 (by decide) ?_
  refine aw_lv (lv2 := [.ref _, .int _, .int _, .null]) rfl ?_
  refine aw_iconst (v := nI 0) dX8_isRight_2 (by decide) ?_
  refine aw_istore_n dX8_isRight_3 (by decide) ?_
  refine aw_lv (lv2 := [.ref _, .int _, .int _, .int _]) rfl ?_
  exact lX8_isRight hM hn hn3 hm hm6 hS hd (m + 1) 0 (by omega) (by omega) hQ

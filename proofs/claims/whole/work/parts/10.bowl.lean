/-! THE BOWL's methods -/
def sp_row (kd a : Int32) : Int32 := if kd = nI 1 then -a else if kd = nI 4 then -a else if kd = nI 3 then nI 2 * a else a
def sp_bnd (kd e : Int32) : Int32 := if kd = nI 1 then -e else if kd = nI 4 then -e - nI 1 else e
def sp_on (kd : Int32) : Int32 := if kd = nI 2 then nI 1 else nI 0
def sp_held (kd : Int32) (v : Int64) : Int32 := if kd = nI 2 then (if v = 0 then nI 1 else nI 0) else if v < 0 then nI 0 else nI 1
theorem sw_14 {x : Int32} (h1 : ¬ x = nI 1) (h2 : ¬ x = nI 2) (h3 : ¬ x = nI 3) (h4 : ¬ x = nI 4) : x.toInt < 1 ∨ 4 < x.toInt := by
  have e1 : ¬ x.toInt = 1 := fun e => h1 (Int32.toInt_inj.mp (by rw [e]; decide))
  have e2 : ¬ x.toInt = 2 := fun e => h2 (Int32.toInt_inj.mp (by rw [e]; decide))
  have e3 : ¬ x.toInt = 3 := fun e => h3 (Int32.toInt_inj.mp (by rw [e]; decide))
  have e4 : ¬ x.toInt = 4 := fun e => h4 (Int32.toInt_inj.mp (by rw [e]; decide))
  omega
theorem sp_on0 {kd : Int32} : sp_on kd = 0 ↔ ¬ kd = nI 2 := by
  unfold sp_on
  by_cases h : kd = nI 2
  · rw [if_pos h]
    exact ⟨fun q => absurd q (by decide), fun q => absurd h q⟩
  · rw [if_neg h]
    exact ⟨fun _ => h, fun _ => by decide⟩
theorem lcmp0 {x : Int64} : lg_cmp x 0 = 0 ↔ x = 0 := by
  unfold lg_cmp
  by_cases h : x > 0
  · rw [if_pos h]
    exact ⟨fun q => absurd q (by decide), fun q => absurd h (by rw [q]; decide)⟩
  · rw [if_neg h]
    by_cases h2 : x = 0
    · rw [if_pos h2]
      exact ⟨fun _ => h2, fun _ => rfl⟩
    · rw [if_neg h2]
      exact ⟨fun q => absurd q (by decide), fun q => absurd q h2⟩
theorem lcmpL {x y : Int64} : lg_cmp x y < 0 ↔ x < y := by
  unfold lg_cmp
  by_cases h : x > y
  · rw [if_pos h]
    refine ⟨fun q => absurd q (by decide), fun q => ?_⟩
    have h1 := Int64.lt_iff_toInt_lt.mp q
    have h2 := Int64.lt_iff_toInt_lt.mp h
    omega
  · rw [if_neg h]
    by_cases h2 : x = y
    · rw [if_pos h2]
      subst h2
      refine ⟨fun q => absurd q (by decide), fun q => ?_⟩
      have h1 := Int64.lt_iff_toInt_lt.mp q
      omega
    · rw [if_neg h2]
      refine ⟨fun _ => ?_, fun _ => by decide⟩
      apply Int64.lt_iff_toInt_lt.mpr
      have h3 : ¬ y.toInt < x.toInt := fun q => h (Int64.lt_iff_toInt_lt.mpr q)
      have h4 : ¬ x.toInt = y.toInt := fun q => h2 (Int64.toInt_inj.mp q)
      omega

theorem tX1_bendOf {G : aw_G} {d : Nat} {Ω : aw_O} {I : aw_MI} {J : aw_MJ} {Q : Int32 → aw_O → aw_MI → aw_MJ → Prop} {b i j : Nat} (hB : aw_bowl Ω b) (hi : i < 3) (hj : j < 3) (hQ : Q (I (b + 1) (i * 3 + j)) Ω I J) : aw_Call G MX1_bendOf d 0 0 [.ref (aw_ad G b), .int (nI i), .int (nI j)] Ω I J (aw_QI Q) := by
  refine aw_enter (by decide +kernel) rfl (Nat.le_of_ble_eq_true rfl) ?_
  show AW G MX1_bendOf (aw_nx Ω) d 0 0 (aw_QI Q) Ω I J 0 0 [.ref (aw_ad G b), .int (nI i), .int (nI j)] 0 []
  refine aw_aload_n dX1_bendOf_0 rfl ?_
  refine aw_getR dX1_bendOf_1 flX1_15 hB.o hB.p3 ?_
  refine aw_iload_n dX1_bendOf_4 rfl ?_
  refine aw_iconst (v := nI 3) dX1_bendOf_5 (by decide) ?_
  refine aw_imulN dX1_bendOf_6 ?_
  refine aw_pc (pc2 := 7) rfl ?_
  refine aw_iload_n dX1_bendOf_7 rfl ?_
  refine aw_iaddN dX1_bendOf_8 ?_
  refine aw_iald dX1_bendOf_9 hB.s3 rfl (by omega) ?_
  exact aw_iret dX1_bendOf_10 rfl (hQ) (Nat.zero_le _) (Nat.zero_le _)
theorem tX1_rowOf {G : aw_G} {d : Nat} {Ω : aw_O} {I : aw_MI} {J : aw_MJ} {Q : Int32 → aw_O → aw_MI → aw_MJ → Prop} {b l i : Nat} (hB : aw_bowl Ω b) (hl : l < 6) (hi : i < 3) (hQ : Q (sp_row (I (b + 3) l) (I (b + 6) (l * 3 + i))) Ω I J) : aw_Call G MX1_rowOf d 0 0 [.ref (aw_ad G b), .int (nI l), .int (nI i)] Ω I J (aw_QI Q) := by
  refine aw_enter (by decide +kernel) rfl (Nat.le_of_ble_eq_true rfl) ?_
  show AW G MX1_rowOf (aw_nx Ω) d 0 0 (aw_QI Q) Ω I J 0 0 [.ref (aw_ad G b), .int (nI l), .int (nI i), .null] 0 []
  refine aw_aload_n dX1_rowOf_0 rfl ?_
  refine aw_getR dX1_rowOf_1 flX1_31 hB.o hB.p8 ?_
  refine aw_iload_n dX1_rowOf_4 rfl ?_
  refine aw_iconst (v := nI 3) dX1_rowOf_5 (by decide) ?_
  refine aw_imulN dX1_rowOf_6 ?_
  refine aw_pc (pc2 := 7) rfl ?_
  refine aw_iload_n dX1_rowOf_7 rfl ?_
  refine aw_iaddN dX1_rowOf_8 ?_
  refine aw_iald dX1_rowOf_9 hB.s8 rfl (by omega) ?_
  refine aw_istore_n dX1_rowOf_10 (by decide) ?_
  refine aw_lv (lv2 := [.ref _, .int _, .int _, .int _]) rfl ?_
  refine aw_aload_n dX1_rowOf_11 rfl ?_
  refine aw_getR dX1_rowOf_12 flX1_22 hB.o hB.p5 ?_
  refine aw_pc (pc2 := 15) rfl ?_
  refine aw_iload_n dX1_rowOf_15 rfl ?_
  refine aw_iald dX1_rowOf_16 hB.s5 rfl (by omega) ?_
  by_cases hk1 : I (b + 3) l = nI 1
  · refine aw_toI hk1 (aw_tabIn (off := 31) (t := 48) dX1_rowOf_17 (by decide) (by decide) (by decide) (by decide) ?_)
    refine aw_iload_n dX1_rowOf_48 rfl ?_
    refine aw_ineg dX1_rowOf_49 ?_
    exact aw_iret dX1_rowOf_50 rfl (by simp only [sp_row, *, if_true, if_false] at hQ; first | exact hQ | (rw [if_neg (by decide)] at hQ; first | exact hQ | (rw [if_neg (by decide)] at hQ; exact hQ))) (Nat.zero_le _) (Nat.zero_le _)
  by_cases hk4 : I (b + 3) l = nI 4
  · refine aw_toI hk4 (aw_tabIn (off := 31) (t := 48) dX1_rowOf_17 (by decide) (by decide) (by decide) (by decide) ?_)
    refine aw_iload_n dX1_rowOf_48 rfl ?_
    refine aw_ineg dX1_rowOf_49 ?_
    exact aw_iret dX1_rowOf_50 rfl (by simp only [sp_row, *, if_true, if_false] at hQ; first | exact hQ | (rw [if_neg (by decide)] at hQ; first | exact hQ | (rw [if_neg (by decide)] at hQ; exact hQ))) (Nat.zero_le _) (Nat.zero_le _)
  by_cases hk3 : I (b + 3) l = nI 3
  · refine aw_toI hk3 (aw_tabIn (off := 34) (t := 51) dX1_rowOf_17 (by decide) (by decide) (by decide) (by decide) ?_)
    refine aw_iconst (v := nI 2) dX1_rowOf_51 (by decide) ?_
    refine aw_iload_n dX1_rowOf_52 rfl ?_
    refine aw_imul dX1_rowOf_53 ?_
    exact aw_iret dX1_rowOf_54 rfl (by simp only [sp_row, *, if_true, if_false] at hQ; first | exact hQ | (rw [if_neg (by decide)] at hQ; first | exact hQ | (rw [if_neg (by decide)] at hQ; exact hQ))) (Nat.zero_le _) (Nat.zero_le _)
  by_cases hk2 : I (b + 3) l = nI 2
  · refine aw_toI hk2 (aw_tabIn (off := 38) (t := 55) dX1_rowOf_17 (by decide) (by decide) (by decide) (by decide) ?_)
    refine aw_iload_n dX1_rowOf_55 rfl ?_
    exact aw_iret dX1_rowOf_56 rfl (by simp only [sp_row, *, if_true, if_false] at hQ; first | exact hQ | (rw [if_neg (by decide)] at hQ; first | exact hQ | (rw [if_neg (by decide)] at hQ; exact hQ))) (Nat.zero_le _) (Nat.zero_le _)
  refine aw_tabOut (t := 55) dX1_rowOf_17 (sw_14 hk1 hk2 hk3 hk4) (by decide) ?_
  refine aw_iload_n dX1_rowOf_55 rfl ?_
  exact aw_iret dX1_rowOf_56 rfl (by simp only [sp_row, *, if_true, if_false] at hQ; first | exact hQ | (rw [if_neg (by decide)] at hQ; first | exact hQ | (rw [if_neg (by decide)] at hQ; exact hQ))) (Nat.zero_le _) (Nat.zero_le _)
theorem tX1_boundOf {G : aw_G} {d : Nat} {Ω : aw_O} {I : aw_MI} {J : aw_MJ} {Q : Int32 → aw_O → aw_MI → aw_MJ → Prop} {b l : Nat} {t : Int32} (hB : aw_bowl Ω b) (hl : l < 6) (hQ : Q (sp_bnd (I (b + 3) l) (I (b + 4) l + t * I (b + 5) l)) Ω I J) : aw_Call G MX1_boundOf d 0 0 [.ref (aw_ad G b), .int (nI l), .int t] Ω I J (aw_QI Q) := by
  refine aw_enter (by decide +kernel) rfl (Nat.le_of_ble_eq_true rfl) ?_
  show AW G MX1_boundOf (aw_nx Ω) d 0 0 (aw_QI Q) Ω I J 0 0 [.ref (aw_ad G b), .int (nI l), .int t, .null] 0 []
  refine aw_aload_n dX1_boundOf_0 rfl ?_
  refine aw_getR dX1_boundOf_1 flX1_25 hB.o hB.p6 ?_
  refine aw_iload_n dX1_boundOf_4 rfl ?_
  refine aw_iald dX1_boundOf_5 hB.s6 rfl (by omega) ?_
  refine aw_iload_n dX1_boundOf_6 rfl ?_
  refine aw_pc (pc2 := 7) rfl ?_
  refine aw_aload_n dX1_boundOf_7 rfl ?_
  refine aw_getR dX1_boundOf_8 flX1_28 hB.o hB.p7 ?_
  refine aw_iload_n dX1_boundOf_11 rfl ?_
  refine aw_iald dX1_boundOf_12 hB.s7 rfl (by omega) ?_
  refine aw_imul dX1_boundOf_13 ?_
  refine aw_iadd dX1_boundOf_14 ?_
  refine aw_pc (pc2 := 15) rfl ?_
  refine aw_istore_n dX1_boundOf_15 (by decide) ?_
  refine aw_lv (lv2 := [.ref _, .int _, .int _, .int _]) rfl ?_
  refine aw_aload_n dX1_boundOf_16 rfl ?_
  refine aw_getR dX1_boundOf_17 flX1_22 hB.o hB.p5 ?_
  refine aw_iload_n dX1_boundOf_20 rfl ?_
  refine aw_iald dX1_boundOf_21 hB.s5 rfl (by omega) ?_
  by_cases hk1 : I (b + 3) l = nI 1
  · refine aw_toI hk1 (aw_lookup (off := 26) (t := 48) dX1_boundOf_22 (by decide) (by decide) (by decide) ?_)
    refine aw_iload_n dX1_boundOf_48 rfl ?_
    refine aw_ineg dX1_boundOf_49 ?_
    exact aw_iret dX1_boundOf_50 rfl (by simp only [sp_bnd, *, if_true, if_false] at hQ; first | exact hQ | (rw [if_neg (by decide)] at hQ; exact hQ)) (Nat.zero_le _) (Nat.zero_le _)
  by_cases hk4 : I (b + 3) l = nI 4
  · refine aw_toI hk4 (aw_lookup (off := 29) (t := 51) dX1_boundOf_22 (by decide) (by decide) (by decide) ?_)
    refine aw_iload_n dX1_boundOf_51 rfl ?_
    refine aw_ineg dX1_boundOf_52 ?_
    refine aw_iconst (v := nI 1) dX1_boundOf_53 (by decide) ?_
    refine aw_isub dX1_boundOf_54 ?_
    exact aw_iret dX1_boundOf_55 rfl (by simp only [sp_bnd, *, if_true, if_false] at hQ; first | exact hQ | (rw [if_neg (by decide)] at hQ; exact hQ)) (Nat.zero_le _) (Nat.zero_le _)
  refine aw_lookup (off := 34) (t := 56) dX1_boundOf_22 (by decide) (by rw [lv_osw hk1 (by decide), lv_osw hk4 (by decide)]; rfl) (by decide) ?_
  refine aw_iload_n dX1_boundOf_56 rfl ?_
  exact aw_iret dX1_boundOf_57 rfl (by simp only [sp_bnd, *, if_true, if_false] at hQ; first | exact hQ | (rw [if_neg (by decide)] at hQ; exact hQ)) (Nat.zero_le _) (Nat.zero_le _)
theorem tX1_isOn {G : aw_G} {d : Nat} {Ω : aw_O} {I : aw_MI} {J : aw_MJ} {Q : Int32 → aw_O → aw_MI → aw_MJ → Prop} {b l : Nat} (hB : aw_bowl Ω b) (hl : l < 6) (hQ : Q (sp_on (I (b + 3) l)) Ω I J) : aw_Call G MX1_isOn d 0 0 [.ref (aw_ad G b), .int (nI l)] Ω I J (aw_QI Q) := by
  refine aw_enter (by decide +kernel) rfl (Nat.le_of_ble_eq_true rfl) ?_
  show AW G MX1_isOn (aw_nx Ω) d 0 0 (aw_QI Q) Ω I J 0 0 [.ref (aw_ad G b), .int (nI l)] 0 []
  refine aw_aload_n dX1_isOn_0 rfl ?_
  refine aw_getR dX1_isOn_1 flX1_22 hB.o hB.p5 ?_
  refine aw_iload_n dX1_isOn_4 rfl ?_
  refine aw_iald dX1_isOn_5 hB.s5 rfl (by omega) ?_
  refine aw_iconst (v := nI 2) dX1_isOn_6 (by decide) ?_
  refine aw_pc (pc2 := 7) rfl ?_
  refine aw_icmp_ne (t := 14) dX1_isOn_7 (by decide) (fun h1 => ?_) (fun h1 => ?_)
  · skip
    refine aw_iconst (v := nI 0) dX1_isOn_14 (by decide) ?_
    exact aw_zret dX1_isOn_15 rfl (by decide) (by rw [sp_on] at hQ; simp only [h1, if_true, if_false] at hQ; exact hQ) (Nat.zero_le _) (Nat.zero_le _)
  · skip
    refine aw_iconst (v := nI 1) dX1_isOn_10 (by decide) ?_
    refine aw_goto (t := 15) dX1_isOn_11 (by decide) ?_
    exact aw_zret dX1_isOn_15 rfl (by decide) (by rw [sp_on] at hQ; simp only [h1, if_true, if_false] at hQ; exact hQ) (Nat.zero_le _) (Nat.zero_le _)
theorem tX1_driftOf {G : aw_G} {d : Nat} {Ω : aw_O} {I : aw_MI} {J : aw_MJ} {Q : Int32 → aw_O → aw_MI → aw_MJ → Prop} {b l : Nat} (hB : aw_bowl Ω b) (hl : l < 6) (hd : 1 ≤ d) (hQ : Q (sp_bnd (I (b + 3) l) (I (b + 4) l + nI 1 * I (b + 5) l) - sp_bnd (I (b + 3) l) (I (b + 4) l + nI 0 * I (b + 5) l)) Ω I J) : aw_Call G MX1_driftOf d 0 0 [.ref (aw_ad G b), .int (nI l)] Ω I J (aw_QI Q) := by
  refine aw_enter (by decide +kernel) rfl (Nat.le_of_ble_eq_true rfl) ?_
  show AW G MX1_driftOf (aw_nx Ω) d 0 0 (aw_QI Q) Ω I J 0 0 [.ref (aw_ad G b), .int (nI l)] 0 []
  refine aw_aload_n dX1_driftOf_0 rfl ?_
  refine aw_iload_n dX1_driftOf_1 rfl ?_
  refine aw_iconst (v := nI 1) dX1_driftOf_2 (by decide) ?_
  refine aw_cvI (As := [_, _]) (d' := d - 1) dX1_driftOf_3 lkX1_59 hB.o (by omega) rfl rfl (Nat.le_of_ble_eq_true rfl) ⟨Nat.le_refl _, Nat.le_refl _⟩ (tX1_boundOf hB hl ?_)
  refine aw_aload_n dX1_driftOf_6 rfl ?_
  refine aw_pc (pc2 := 7) rfl ?_
  refine aw_iload_n dX1_driftOf_7 rfl ?_
  refine aw_iconst (v := nI 0) dX1_driftOf_8 (by decide) ?_
  refine aw_cvI (As := [_, _]) (d' := d - 1) dX1_driftOf_9 lkX1_59 hB.o (by omega) rfl rfl (Nat.le_of_ble_eq_true rfl) ⟨Nat.le_refl _, Nat.le_refl _⟩ (tX1_boundOf hB hl ?_)
  refine aw_isub dX1_driftOf_12 ?_
  exact aw_iret dX1_driftOf_13 rfl (hQ) (Nat.zero_le _) (Nat.zero_le _)
theorem tX1_allLines {G : aw_G} {d : Nat} {Ω : aw_O} {I : aw_MI} {J : aw_MJ} {Q : Int32 → aw_O → aw_MI → aw_MJ → Prop} {b m : Nat} (hB : aw_bowl Ω b) (hm : I b 2 = nI m) (hQ : Q (nI 1 <<< (nI m &&& 31) - nI 1) Ω I J) : aw_Call G MX1_allLines d 0 0 [.ref (aw_ad G b)] Ω I J (aw_QI Q) := by
  refine aw_enter (by decide +kernel) rfl (Nat.le_of_ble_eq_true rfl) ?_
  show AW G MX1_allLines (aw_nx Ω) d 0 0 (aw_QI Q) Ω I J 0 0 [.ref (aw_ad G b)] 0 []
  refine aw_iconst (v := nI 1) dX1_allLines_0 (by decide) ?_
  refine aw_aload_n dX1_allLines_1 rfl ?_
  refine aw_getIv (v := nI m) dX1_allLines_2 flX1_37 hB.o hm ?_
  refine aw_ishl dX1_allLines_5 ?_
  refine aw_iconst (v := nI 1) dX1_allLines_6 (by decide) ?_
  refine aw_pc (pc2 := 7) rfl ?_
  refine aw_isub dX1_allLines_7 ?_
  exact aw_iret dX1_allLines_8 rfl (hQ) (Nat.zero_le _) (Nat.zero_le _)
theorem tX1_isHeldBy {G : aw_G} {d : Nat} {Ω : aw_O} {I : aw_MI} {J : aw_MJ} {Q : Int32 → aw_O → aw_MI → aw_MJ → Prop} {b l : Nat} {v : Int64} (hB : aw_bowl Ω b) (hl : l < 6) (hd : 1 ≤ d) (hQ : Q (sp_held (I (b + 3) l) v) Ω I J) : aw_Call G MX1_isHeldBy d 0 0 [.ref (aw_ad G b), .int (nI l), .long v] Ω I J (aw_QI Q) := by
  refine aw_enter (by decide +kernel) rfl (Nat.le_of_ble_eq_true rfl) ?_
  show AW G MX1_isHeldBy (aw_nx Ω) d 0 0 (aw_QI Q) Ω I J 0 0 [.ref (aw_ad G b), .int (nI l), .long v, .null] 0 []
  refine aw_aload_n dX1_isHeldBy_0 rfl ?_
  refine aw_iload_n dX1_isHeldBy_1 rfl ?_
  refine aw_cvI (As := [_]) (d' := d - 1) dX1_isHeldBy_2 lkX1_63 hB.o (by omega) rfl rfl (Nat.le_of_ble_eq_true rfl) ⟨Nat.le_refl _, Nat.le_refl _⟩ (tX1_isOn hB hl ?_)
  refine aw_if_eq (t := 22) dX1_isHeldBy_5 (by decide) (fun h1 => ?_) (fun h1 => ?_)
  · skip
    refine aw_lload_n dX1_isHeldBy_22 rfl ?_
    refine aw_lconst (v := 0) dX1_isHeldBy_23 (by decide) ?_
    refine aw_lcmp dX1_isHeldBy_24 ?_
    refine aw_if_lt (t := 32) dX1_isHeldBy_25 (by decide) (fun h2 => ?_) (fun h2 => ?_)
    · skip
      refine aw_iconst (v := nI 0) dX1_isHeldBy_32 (by decide) ?_
      simp only [sp_on0, lcmp0, lcmpL, Classical.not_not] at h1 h2
      exact aw_zret dX1_isHeldBy_33 rfl (by decide) (by unfold sp_held at hQ; simp only [h1, h2, if_true, if_false] at hQ; exact hQ) (Nat.zero_le _) (Nat.zero_le _)
    · skip
      refine aw_iconst (v := nI 1) dX1_isHeldBy_28 (by decide) ?_
      refine aw_goto (t := 33) dX1_isHeldBy_29 (by decide) ?_
      simp only [sp_on0, lcmp0, lcmpL, Classical.not_not] at h1 h2
      exact aw_zret dX1_isHeldBy_33 rfl (by decide) (by unfold sp_held at hQ; simp only [h1, h2, if_true, if_false] at hQ; exact hQ) (Nat.zero_le _) (Nat.zero_le _)
  · skip
    refine aw_lload_n dX1_isHeldBy_8 rfl ?_
    refine aw_lconst (v := 0) dX1_isHeldBy_9 (by decide) ?_
    refine aw_lcmp dX1_isHeldBy_10 ?_
    refine aw_if_ne (t := 18) dX1_isHeldBy_11 (by decide) (fun h3 => ?_) (fun h3 => ?_)
    · skip
      refine aw_iconst (v := nI 0) dX1_isHeldBy_18 (by decide) ?_
      refine aw_goto (t := 33) dX1_isHeldBy_19 (by decide) ?_
      simp only [sp_on0, lcmp0, lcmpL, Classical.not_not] at h1 h3
      exact aw_zret dX1_isHeldBy_33 rfl (by decide) (by unfold sp_held at hQ; simp only [h1, h3, if_true, if_false] at hQ; exact hQ) (Nat.zero_le _) (Nat.zero_le _)
    · skip
      refine aw_iconst (v := nI 1) dX1_isHeldBy_14 (by decide) ?_
      refine aw_goto (t := 33) dX1_isHeldBy_15 (by decide) ?_
      simp only [sp_on0, lcmp0, lcmpL, Classical.not_not] at h1 h3
      exact aw_zret dX1_isHeldBy_33 rfl (by decide) (by unfold sp_held at hQ; simp only [h1, h3, if_true, if_false] at hQ; exact hQ) (Nat.zero_le _) (Nat.zero_le _)

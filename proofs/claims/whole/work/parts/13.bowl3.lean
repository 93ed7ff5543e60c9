/-! THE BOWL's methods that change it -/
/-- places lo .. lo + n - 1 of a cell hold what f says -/
def aw_wr {α : Type} (I : Nat → Nat → α) (a lo n : Nat) (f : Nat → α) : Nat → Nat → α := fun a' k => if a' = a ∧ lo ≤ k ∧ k < lo + n then f (k - lo) else I a' k
theorem aw_wr_0 {α : Type} (I : Nat → Nat → α) (a lo : Nat) (f : Nat → α) : I = aw_wr I a lo 0 f := by
  funext a' k
  unfold aw_wr
  rw [if_neg (by omega)]
theorem aw_wr_s {α : Type} (I : Nat → Nat → α) (a lo n : Nat) (f : Nat → α) : aw_up (aw_wr I a lo n f) a (lo + n) (f n) = aw_wr I a lo (n + 1) f := by
  funext a' k
  unfold aw_up aw_wr
  by_cases h : a' = a
  · by_cases h2 : k = lo + n
    · rw [if_pos ⟨h, h2⟩, if_pos (by omega), h2, Nat.add_sub_cancel_left]
    · rw [if_neg (fun q => h2 q.2)]
      by_cases h3 : lo ≤ k ∧ k < lo + n
      · rw [if_pos (by omega), if_pos (by omega)]
      · rw [if_neg (by omega), if_neg (by omega)]
  · rw [if_neg (fun q => h q.1), if_neg (fun q => h q.1), if_neg (fun q => h q.1)]
theorem aw_wr_off {α : Type} (I : Nat → Nat → α) {a lo n a' : Nat} (f : Nat → α) (h : a' ≠ a) : aw_wr I a lo n f a' = I a' := funext fun k => by
  unfold aw_wr
  exact if_neg (fun q => h q.1)
theorem aw_fill_off {α : Type} (I : Nat → Nat → α) {a n a' : Nat} (v : α) (h : a' ≠ a) : aw_fill I a n v a' = I a' := funext fun k => by
  unfold aw_fill
  exact if_neg (fun q => h q.1)
theorem aw_fr_off {α : Type} (I : Nat → Nat → α) {a lo n a' : Nat} (v : α) (h : a' ≠ a) : aw_fr I a lo n v a' = I a' := funext fun k => by
  unfold aw_fr
  exact if_neg (fun q => h q.1)
/-- a round bowl's first bends, up to i -/
def sp_rd (i k : Nat) : Int32 := if k % 4 = 0 ∧ k < 4 * i then nI 1 else nI 0
theorem sp_rd_0 (I : aw_MI) (a : Nat) : aw_fill I a 9 (nI 0) = aw_wr I a 0 9 (sp_rd 0) := by
  funext a' k
  unfold aw_fill aw_wr sp_rd
  by_cases h : a' = a ∧ k < 9
  · rw [if_pos h, if_pos (by omega), if_neg (by omega)]
  · rw [if_neg h, if_neg (by omega)]
theorem sp_rd_s (I : aw_MI) (a i : Nat) (h3 : i < 3) : aw_up (aw_up (aw_wr I a 0 9 (sp_rd i)) a (i * 3 + i) (nI 1)) a (i * 3 + i) (nI 1) = aw_wr I a 0 9 (sp_rd (i + 1)) := by
  funext a' k
  unfold aw_up aw_wr sp_rd
  by_cases h : a' = a ∧ k = i * 3 + i
  · rw [if_pos h, if_pos (by omega), if_pos (by omega)]
  · rw [if_neg h, if_neg h]
    by_cases h2 : a' = a ∧ 0 ≤ k ∧ k < 0 + 9
    · rw [if_pos h2, if_pos h2]
      by_cases h4 : (k - 0) % 4 = 0 ∧ k - 0 < 4 * i
      · rw [if_pos h4, if_pos (by omega)]
      · rw [if_neg h4, if_neg (by omega)]
    · rw [if_neg h2, if_neg h2]

theorem lX1_makeRound {G : aw_G} {d : Nat} {Ω : aw_O} {I : aw_MI} {J : aw_MJ} {Q : aw_O → aw_MI → aw_MJ → Prop} {b : Nat} (hB : aw_bowl Ω b) (hd : 1 ≤ d) (hQ : Q Ω (aw_wr I (b + 1) 0 9 (sp_rd 3)) J) : ∀ (z i : Nat), i ≤ 3 → 3 - i < z → AW G MX1_makeRound (aw_nx Ω) d 0 0 (aw_QV Q) Ω (aw_wr I (b + 1) 0 9 (sp_rd i)) J 0 0 [.ref (aw_ad G b), .int (nI i)] 10 [] := by
  intro z
  induction z with
  | zero =>
    intro i h0 hz
    exact absurd hz (by omega)
  | succ z ih =>
    intro i h0 hz
    refine aw_iload_n dX1_makeRound_10 rfl ?_
    refine aw_iconst (v := nI 3) dX1_makeRound_11 (by decide) ?_
    refine aw_geN (t := 28) dX1_makeRound_12 (by decide) (by omega) (by omega) (fun h1 => ?_) (fun h1 => ?_)
    · skip
      have e1 : i = 3 := by omega
      subst e1
      exact aw_vret dX1_makeRound_28 rfl (hQ) (Nat.zero_le _) (Nat.zero_le _)
    · skip
      refine aw_aload_n dX1_makeRound_15 rfl ?_
      refine aw_iload_n dX1_makeRound_16 rfl ?_
      refine aw_iload_n dX1_makeRound_17 rfl ?_
      refine aw_iconst (v := nI 1) dX1_makeRound_18 (by decide) ?_
      refine aw_cvV (As := [_, _, _]) (d' := d - 1) dX1_makeRound_19 lkX1_49 hB.o (by omega) rfl rfl (Nat.le_of_ble_eq_true rfl) ⟨Nat.le_refl _, Nat.le_refl _⟩ (tX1_putBend hB (by omega) (by omega) ?_)
      refine aw_pc (pc2 := 22) rfl ?_
      refine aw_iincN dX1_makeRound_22 rfl (by decide) ?_
      refine aw_lv (lv2 := [.ref _, .int _]) rfl ?_
      refine aw_goto (t := 10) dX1_makeRound_25 (by decide) ?_
      rw [sp_rd_s I (b + 1) i (by omega)]
      exact ih (i + 1) (by omega) (by omega)
theorem tX1_makeRound {G : aw_G} {d : Nat} {Ω : aw_O} {I : aw_MI} {J : aw_MJ} {Q : aw_O → aw_MI → aw_MJ → Prop} {b : Nat} (hB : aw_bowl Ω b) (hd : 1 ≤ d) (hQ : Q Ω (aw_wr I (b + 1) 0 9 (sp_rd 3)) J) : aw_Call G MX1_makeRound d 0 0 [.ref (aw_ad G b)] Ω I J (aw_QV Q) := by
  refine aw_enter (by decide +kernel) rfl (Nat.le_of_ble_eq_true rfl) ?_
  show AW G MX1_makeRound (aw_nx Ω) d 0 0 (aw_QV Q) Ω I J 0 0 [.ref (aw_ad G b), .null] 0 []
  refine aw_aload_n dX1_makeRound_0 rfl ?_
  refine aw_getR dX1_makeRound_1 flX1_15 hB.o hB.p3 ?_
  refine aw_iconst (v := nI 0) dX1_makeRound_4 (by decide) ?_
  refine aw_csV (As := [_, _]) (d' := d - 1) dX1_makeRound_5 lkX1_43 (by omega) rfl rfl (Nat.le_of_ble_eq_true rfl) ⟨Nat.le_refl _, Nat.le_refl _⟩ (tJ7_fill_53178 hB.s3 (by decide) ?_)
  refine aw_iconst (v := nI 0) dX1_makeRound_8 (by decide) ?_
  refine aw_pc (pc2 := 9) rfl ?_
  refine aw_istore_n dX1_makeRound_9 (by decide) ?_
  refine aw_lv (lv2 := [.ref _, .int _]) rfl ?_
  refine aw_toM (sp_rd_0 I (b + 1)) rfl ?_
  exact lX1_makeRound hB hd hQ 4 0 (by omega) (by omega)
theorem tX1_begin {G : aw_G} {d : Nat} {Ω : aw_O} {I : aw_MI} {J : aw_MJ} {Q : aw_O → aw_MI → aw_MJ → Prop} {b : Nat} {v : Int32} (hB : aw_bowl Ω b) (hd : 2 ≤ d) (hQ : Q Ω (aw_fill (aw_wr (aw_up (aw_up (aw_up I b 0 v) b 1 (nI 0)) b 2 (nI 0)) (b + 1) 0 9 (sp_rd 3)) (b + 2) 3 (nI 0)) J) : aw_Call G MX1_begin d 0 0 [.ref (aw_ad G b), .int v] Ω I J (aw_QV Q) := by
  refine aw_enter (by decide +kernel) rfl (Nat.le_of_ble_eq_true rfl) ?_
  show AW G MX1_begin (aw_nx Ω) d 0 0 (aw_QV Q) Ω I J 0 0 [.ref (aw_ad G b), .int v] 0 []
  refine aw_aload_n dX1_begin_0 rfl ?_
  refine aw_iload_n dX1_begin_1 rfl ?_
  refine aw_putI dX1_begin_2 fwX1_9 hB.o rfl ?_
  refine aw_aload_n dX1_begin_5 rfl ?_
  refine aw_iconst (v := nI 0) dX1_begin_6 (by decide) ?_
  refine aw_pc (pc2 := 7) rfl ?_
  refine aw_putI dX1_begin_7 fwX1_34 hB.o rfl ?_
  refine aw_aload_n dX1_begin_10 rfl ?_
  refine aw_iconst (v := nI 0) dX1_begin_11 (by decide) ?_
  refine aw_putI dX1_begin_12 fwX1_37 hB.o rfl ?_
  refine aw_aload_n dX1_begin_15 rfl ?_
  refine aw_cvV (As := []) (d' := d - 1) dX1_begin_16 lkX1_40 hB.o (by omega) rfl rfl (Nat.le_of_ble_eq_true rfl) ⟨Nat.le_refl _, Nat.le_refl _⟩ (tX1_makeRound hB (by omega) ?_)
  refine aw_pc (pc2 := 19) rfl ?_
  refine aw_aload_n dX1_begin_19 rfl ?_
  refine aw_getR dX1_begin_20 flX1_19 hB.o hB.p4 ?_
  refine aw_iconst (v := nI 0) dX1_begin_23 (by decide) ?_
  refine aw_csV (As := [_, _]) (d' := d - 1) dX1_begin_24 lkX1_43 (by omega) rfl rfl (Nat.le_of_ble_eq_true rfl) ⟨Nat.le_refl _, Nat.le_refl _⟩ (tJ7_fill_53178 hB.s4 (by decide) ?_)
  exact aw_vret dX1_begin_27 rfl (hQ) (Nat.zero_le _) (Nat.zero_le _)
theorem tX1_become {G : aw_G} {d : Nat} {Ω : aw_O} {I : aw_MI} {J : aw_MJ} {Q : aw_O → aw_MI → aw_MJ → Prop} {b o : Nat} (hB : aw_bowl Ω b) (hO : aw_bowl Ω o) (hbo : b ≠ o) (hd : 2 ≤ d) (hQ : Q Ω (aw_cp (aw_cp (aw_cp (aw_cp (aw_cp (aw_cp (aw_up (aw_up (aw_up I b 0 (I o 0)) b 1 (I o 1)) b 2 (I o 2)) (o + 1) (b + 1) (0) (0) (9)) (o + 2) (b + 2) (0) (0) (3)) (o + 3) (b + 3) (0) (0) (6)) (o + 4) (b + 4) (0) (0) (6)) (o + 5) (b + 5) (0) (0) (6)) (o + 6) (b + 6) (0) (0) (18)) J) : aw_Call G MX1_become d 0 0 [.ref (aw_ad G b), .ref (aw_ad G o)] Ω I J (aw_QV Q) := by
  refine aw_enter (by decide +kernel) rfl (Nat.le_of_ble_eq_true rfl) ?_
  show AW G MX1_become (aw_nx Ω) d 0 0 (aw_QV Q) Ω I J 0 0 [.ref (aw_ad G b), .ref (aw_ad G o)] 0 []
  refine aw_aload_n dX1_become_0 rfl ?_
  refine aw_aload_n dX1_become_1 rfl ?_
  refine aw_getI dX1_become_2 flX1_9 hO.o ?_
  refine aw_putI dX1_become_5 fwX1_9 hB.o rfl ?_
  refine aw_aload_n dX1_become_8 rfl ?_
  refine aw_pc (pc2 := 9) rfl ?_
  refine aw_aload_n dX1_become_9 rfl ?_
  refine aw_getI dX1_become_10 flX1_34 hO.o ?_
  refine aw_toI (congrFun (aw_up_off I _ (Ne.symm hbo)) 1) ?_
  refine aw_putI dX1_become_13 fwX1_34 hB.o rfl ?_
  refine aw_aload_n dX1_become_16 rfl ?_
  refine aw_aload_n dX1_become_17 rfl ?_
  refine aw_getI dX1_become_18 flX1_37 hO.o ?_
  refine aw_toI ((congrFun (aw_up_off _ _ (Ne.symm hbo)) 2).trans (congrFun (aw_up_off I _ (Ne.symm hbo)) 2)) ?_
  refine aw_pc (pc2 := 21) rfl ?_
  refine aw_putI dX1_become_21 fwX1_37 hB.o rfl ?_
  refine aw_aload_n dX1_become_24 rfl ?_
  refine aw_getR dX1_become_25 flX1_15 hO.o hO.p3 ?_
  refine aw_iconst (v := nI 0) dX1_become_28 (by decide) ?_
  refine aw_aload_n dX1_become_29 rfl ?_
  refine aw_getR dX1_become_30 flX1_15 hB.o hB.p3 ?_
  refine aw_pc (pc2 := 33) rfl ?_
  refine aw_iconst (v := nI 0) dX1_become_33 (by decide) ?_
  refine aw_aload_n dX1_become_34 rfl ?_
  refine aw_getR dX1_become_35 flX1_15 hB.o hB.p3 ?_
  refine aw_alen dX1_become_38 hB.s3 ?_
  refine aw_copyI dX1_become_39 lcX1_53 hO.s3 hB.s3 rfl rfl rfl (by omega) (by omega) (Nat.le_of_ble_eq_true rfl) (by omega) rfl ?_
  refine aw_aload_n dX1_become_42 rfl ?_
  refine aw_pc (pc2 := 43) rfl ?_
  refine aw_getR dX1_become_43 flX1_19 hO.o hO.p4 ?_
  refine aw_iconst (v := nI 0) dX1_become_46 (by decide) ?_
  refine aw_aload_n dX1_become_47 rfl ?_
  refine aw_getR dX1_become_48 flX1_19 hB.o hB.p4 ?_
  refine aw_iconst (v := nI 0) dX1_become_51 (by decide) ?_
  refine aw_aload_n dX1_become_52 rfl ?_
  refine aw_pc (pc2 := 53) rfl ?_
  refine aw_getR dX1_become_53 flX1_19 hB.o hB.p4 ?_
  refine aw_alen dX1_become_56 hB.s4 ?_
  refine aw_copyI dX1_become_57 lcX1_53 hO.s4 hB.s4 rfl rfl rfl (by omega) (by omega) (Nat.le_of_ble_eq_true rfl) (by omega) rfl ?_
  refine aw_aload_n dX1_become_60 rfl ?_
  refine aw_getR dX1_become_61 flX1_22 hO.o hO.p5 ?_
  refine aw_iconst (v := nI 0) dX1_become_64 (by decide) ?_
  refine aw_pc (pc2 := 65) rfl ?_
  refine aw_aload_n dX1_become_65 rfl ?_
  refine aw_getR dX1_become_66 flX1_22 hB.o hB.p5 ?_
  refine aw_iconst (v := nI 0) dX1_become_69 (by decide) ?_
  refine aw_aload_n dX1_become_70 rfl ?_
  refine aw_getR dX1_become_71 flX1_22 hB.o hB.p5 ?_
  refine aw_alen dX1_become_74 hB.s5 ?_
  refine aw_pc (pc2 := 75) rfl ?_
  refine aw_copyI dX1_become_75 lcX1_53 hO.s5 hB.s5 rfl rfl rfl (by omega) (by omega) (Nat.le_of_ble_eq_true rfl) (by omega) rfl ?_
  refine aw_aload_n dX1_become_78 rfl ?_
  refine aw_getR dX1_become_79 flX1_25 hO.o hO.p6 ?_
  refine aw_iconst (v := nI 0) dX1_become_82 (by decide) ?_
  refine aw_aload_n dX1_become_83 rfl ?_
  refine aw_getR dX1_become_84 flX1_25 hB.o hB.p6 ?_
  refine aw_pc (pc2 := 87) rfl ?_
  refine aw_iconst (v := nI 0) dX1_become_87 (by decide) ?_
  refine aw_aload_n dX1_become_88 rfl ?_
  refine aw_getR dX1_become_89 flX1_25 hB.o hB.p6 ?_
  refine aw_alen dX1_become_92 hB.s6 ?_
  refine aw_copyI dX1_become_93 lcX1_53 hO.s6 hB.s6 rfl rfl rfl (by omega) (by omega) (Nat.le_of_ble_eq_true rfl) (by omega) rfl ?_
  refine aw_aload_n dX1_become_96 rfl ?_
  refine aw_pc (pc2 := 97) rfl ?_
  refine aw_getR dX1_become_97 flX1_28 hO.o hO.p7 ?_
  refine aw_iconst (v := nI 0) dX1_become_100 (by decide) ?_
  refine aw_aload_n dX1_become_101 rfl ?_
  refine aw_getR dX1_become_102 flX1_28 hB.o hB.p7 ?_
  refine aw_iconst (v := nI 0) dX1_become_105 (by decide) ?_
  refine aw_aload_n dX1_become_106 rfl ?_
  refine aw_pc (pc2 := 107) rfl ?_
  refine aw_getR dX1_become_107 flX1_28 hB.o hB.p7 ?_
  refine aw_alen dX1_become_110 hB.s7 ?_
  refine aw_copyI dX1_become_111 lcX1_53 hO.s7 hB.s7 rfl rfl rfl (by omega) (by omega) (Nat.le_of_ble_eq_true rfl) (by omega) rfl ?_
  refine aw_aload_n dX1_become_114 rfl ?_
  refine aw_getR dX1_become_115 flX1_31 hO.o hO.p8 ?_
  refine aw_iconst (v := nI 0) dX1_become_118 (by decide) ?_
  refine aw_pc (pc2 := 119) rfl ?_
  refine aw_aload_n dX1_become_119 rfl ?_
  refine aw_getR dX1_become_120 flX1_31 hB.o hB.p8 ?_
  refine aw_iconst (v := nI 0) dX1_become_123 (by decide) ?_
  refine aw_aload_n dX1_become_124 rfl ?_
  refine aw_getR dX1_become_125 flX1_31 hB.o hB.p8 ?_
  refine aw_alen dX1_become_128 hB.s8 ?_
  refine aw_pc (pc2 := 129) rfl ?_
  refine aw_copyI dX1_become_129 lcX1_53 hO.s8 hB.s8 rfl rfl rfl (by omega) (by omega) (Nat.le_of_ble_eq_true rfl) (by omega) rfl ?_
  exact aw_vret dX1_become_132 rfl (hQ) (Nat.zero_le _) (Nat.zero_le _)
theorem lX1_addLine {G : aw_G} {d : Nat} {Ω : aw_O} {I : aw_MI} {J : aw_MJ} {Q : Int32 → aw_O → aw_MI → aw_MJ → Prop} {b m : Nat} {kd v w : Int32} (hB : aw_bowl Ω b) (hm : m < 6) (hQ : Q (nI m) Ω (aw_up (aw_wr I (b + 6) (m * 3) 3 (fun _ => nI 0)) b 2 (nI (m + 1))) J) : ∀ (z i : Nat), i ≤ 3 → 3 - i < z → AW G MX1_addLine (aw_nx Ω) d 0 0 (aw_QI Q) Ω (aw_wr I (b + 6) (m * 3) i (fun _ => nI 0)) J 0 0 [.ref (aw_ad G b), .int kd, .int v, .int w, .int (nI m), .int (nI i)] 33 [] := by
  intro z
  induction z with
  | zero =>
    intro i h0 hz
    exact absurd hz (by omega)
  | succ z ih =>
    intro i h0 hz
    refine aw_iload dX1_addLine_33 rfl ?_
    refine aw_iconst (v := nI 3) dX1_addLine_35 (by decide) ?_
    refine aw_geN (t := 58) dX1_addLine_36 (by decide) (by omega) (by omega) (fun h1 => ?_) (fun h1 => ?_)
    · skip
      have e1 : i = 3 := by omega
      subst e1
      refine aw_aload_n dX1_addLine_58 rfl ?_
      refine aw_iload dX1_addLine_59 rfl ?_
      refine aw_iconst (v := nI 1) dX1_addLine_61 (by decide) ?_
      refine aw_iaddN dX1_addLine_62 ?_
      refine aw_putI dX1_addLine_63 fwX1_37 hB.o rfl ?_
      refine aw_pc (pc2 := 66) rfl ?_
      refine aw_iload dX1_addLine_66 rfl ?_
      exact aw_iret dX1_addLine_68 rfl (hQ) (Nat.zero_le _) (Nat.zero_le _)
    · skip
      refine aw_aload_n dX1_addLine_39 rfl ?_
      refine aw_getR dX1_addLine_40 flX1_31 hB.o hB.p8 ?_
      refine aw_iload dX1_addLine_43 rfl ?_
      refine aw_iconst (v := nI 3) dX1_addLine_45 (by decide) ?_
      refine aw_imulN dX1_addLine_46 ?_
      refine aw_pc (pc2 := 47) rfl ?_
      refine aw_iload dX1_addLine_47 rfl ?_
      refine aw_iaddN dX1_addLine_49 ?_
      refine aw_iconst (v := nI 0) dX1_addLine_50 (by decide) ?_
      refine aw_iast dX1_addLine_51 hB.s8 rfl (by omega) rfl ?_
      refine aw_iincN dX1_addLine_52 rfl (by decide) ?_
      refine aw_lv (lv2 := [.ref _, .int _, .int _, .int _, .int _, .int _]) rfl ?_
      refine aw_goto (t := 33) dX1_addLine_55 (by decide) ?_
      rw [aw_wr_s I (b + 6) (m * 3) i (fun _ => nI 0)]
      exact ih (i + 1) (by omega) (by omega)
theorem tX1_addLine {G : aw_G} {d : Nat} {Ω : aw_O} {I : aw_MI} {J : aw_MJ} {Q : Int32 → aw_O → aw_MI → aw_MJ → Prop} {b m : Nat} {kd v w : Int32} (hB : aw_bowl Ω b) (h2 : I b 2 = nI m) (hm : m < 6) (hQ : Q (nI m) Ω (aw_up (aw_wr (aw_up (aw_up (aw_up I (b + 3) m kd) (b + 4) m v) (b + 5) m w) (b + 6) (m * 3) 3 (fun _ => nI 0)) b 2 (nI (m + 1))) J) : aw_Call G MX1_addLine d 0 0 [.ref (aw_ad G b), .int kd, .int v, .int w] Ω I J (aw_QI Q) := by
  refine aw_enter (by decide +kernel) rfl (Nat.le_of_ble_eq_true rfl) ?_
  show AW G MX1_addLine (aw_nx Ω) d 0 0 (aw_QI Q) Ω I J 0 0 [.ref (aw_ad G b), .int kd, .int v, .int w, .null, .null] 0 []
  refine aw_aload_n dX1_addLine_0 rfl ?_
  refine aw_getIv (v := nI m) dX1_addLine_1 flX1_37 hB.o h2 ?_
  refine aw_istore dX1_addLine_4 (by decide) ?_
  refine aw_lv (lv2 := [.ref _, .int _, .int _, .int _, .int _, .null]) rfl ?_
  refine aw_aload_n dX1_addLine_6 rfl ?_
  refine aw_getR dX1_addLine_7 flX1_22 hB.o hB.p5 ?_
  refine aw_pc (pc2 := 10) rfl ?_
  refine aw_iload dX1_addLine_10 rfl ?_
  refine aw_iload_n dX1_addLine_12 rfl ?_
  refine aw_iast dX1_addLine_13 hB.s5 rfl (by omega) rfl ?_
  refine aw_aload_n dX1_addLine_14 rfl ?_
  refine aw_getR dX1_addLine_15 flX1_25 hB.o hB.p6 ?_
  refine aw_iload dX1_addLine_18 rfl ?_
  refine aw_pc (pc2 := 20) rfl ?_
  refine aw_iload_n dX1_addLine_20 rfl ?_
  refine aw_iast dX1_addLine_21 hB.s6 rfl (by omega) rfl ?_
  refine aw_aload_n dX1_addLine_22 rfl ?_
  refine aw_getR dX1_addLine_23 flX1_28 hB.o hB.p7 ?_
  refine aw_iload dX1_addLine_26 rfl ?_
  refine aw_iload_n dX1_addLine_28 rfl ?_
  refine aw_pc (pc2 := 29) rfl ?_
  refine aw_iast dX1_addLine_29 hB.s7 rfl (by omega) rfl ?_
  refine aw_iconst (v := nI 0) dX1_addLine_30 (by decide) ?_
  refine aw_istore dX1_addLine_31 (by decide) ?_
  refine aw_lv (lv2 := [.ref _, .int _, .int _, .int _, .int _, .int _]) rfl ?_
  refine aw_toM (aw_wr_0 (aw_up (aw_up (aw_up I (b + 3) m kd) (b + 4) m v) (b + 5) m w) (b + 6) (m * 3) (fun _ => nI 0)) rfl ?_
  exact lX1_addLine hB hm hQ 4 0 (by omega) (by omega)
theorem tX1_removeLine {G : aw_G} {d : Nat} {Ω : aw_O} {I : aw_MI} {J : aw_MJ} {Q : aw_O → aw_MI → aw_MJ → Prop} {b m l : Nat} (hB : aw_bowl Ω b) (h2 : I b 2 = nI m) (hm : m ≤ 6) (hl : l < m) (hd : 2 ≤ d) (hQ : Q Ω (aw_up (aw_cp (aw_cp (aw_cp (aw_cp I (b + 3) (b + 3) (l + 1) (l) (m - l - 1)) (b + 4) (b + 4) (l + 1) (l) (m - l - 1)) (b + 5) (b + 5) (l + 1) (l) (m - l - 1)) (b + 6) (b + 6) ((l + 1) * 3) (l * 3) ((m - l - 1) * 3)) b 2 (nI (m - 1))) J) : aw_Call G MX1_removeLine d 0 0 [.ref (aw_ad G b), .int (nI l)] Ω I J (aw_QV Q) := by
  refine aw_enter (by decide +kernel) rfl (Nat.le_of_ble_eq_true rfl) ?_
  show AW G MX1_removeLine (aw_nx Ω) d 0 0 (aw_QV Q) Ω I J 0 0 [.ref (aw_ad G b), .int (nI l), .null] 0 []
  refine aw_aload_n dX1_removeLine_0 rfl ?_
  refine aw_getIv (v := nI m) dX1_removeLine_1 flX1_37 hB.o (by first | exact h2 | (simp (disch := omega) only [aw_cp_off, aw_up_off, aw_wr_off, aw_fill_off, aw_fr_off]; exact h2)) ?_
  refine aw_iload_n dX1_removeLine_4 rfl ?_
  refine aw_isubN dX1_removeLine_5 (by omega) ?_
  refine aw_iconst (v := nI 1) dX1_removeLine_6 (by decide) ?_
  refine aw_pc (pc2 := 7) rfl ?_
  refine aw_isubN dX1_removeLine_7 (by omega) ?_
  refine aw_istore_n dX1_removeLine_8 (by decide) ?_
  refine aw_lv (lv2 := [.ref _, .int _, .int _]) rfl ?_
  refine aw_aload_n dX1_removeLine_9 rfl ?_
  refine aw_getR dX1_removeLine_10 flX1_22 hB.o hB.p5 ?_
  refine aw_iload_n dX1_removeLine_13 rfl ?_
  refine aw_iconst (v := nI 1) dX1_removeLine_14 (by decide) ?_
  refine aw_pc (pc2 := 15) rfl ?_
  refine aw_iaddN dX1_removeLine_15 ?_
  refine aw_aload_n dX1_removeLine_16 rfl ?_
  refine aw_getR dX1_removeLine_17 flX1_22 hB.o hB.p5 ?_
  refine aw_iload_n dX1_removeLine_20 rfl ?_
  refine aw_iload_n dX1_removeLine_21 rfl ?_
  refine aw_copyI dX1_removeLine_22 lcX1_53 hB.s5 hB.s5 rfl rfl rfl (by omega) (by omega) (Nat.le_of_ble_eq_true rfl) (by omega) rfl ?_
  refine aw_pc (pc2 := 25) rfl ?_
  refine aw_aload_n dX1_removeLine_25 rfl ?_
  refine aw_getR dX1_removeLine_26 flX1_25 hB.o hB.p6 ?_
  refine aw_iload_n dX1_removeLine_29 rfl ?_
  refine aw_iconst (v := nI 1) dX1_removeLine_30 (by decide) ?_
  refine aw_iaddN dX1_removeLine_31 ?_
  refine aw_aload_n dX1_removeLine_32 rfl ?_
  refine aw_pc (pc2 := 33) rfl ?_
  refine aw_getR dX1_removeLine_33 flX1_25 hB.o hB.p6 ?_
  refine aw_iload_n dX1_removeLine_36 rfl ?_
  refine aw_iload_n dX1_removeLine_37 rfl ?_
  refine aw_copyI dX1_removeLine_38 lcX1_53 hB.s6 hB.s6 rfl rfl rfl (by omega) (by omega) (Nat.le_of_ble_eq_true rfl) (by omega) rfl ?_
  refine aw_aload_n dX1_removeLine_41 rfl ?_
  refine aw_getR dX1_removeLine_42 flX1_28 hB.o hB.p7 ?_
  refine aw_pc (pc2 := 45) rfl ?_
  refine aw_iload_n dX1_removeLine_45 rfl ?_
  refine aw_iconst (v := nI 1) dX1_removeLine_46 (by decide) ?_
  refine aw_iaddN dX1_removeLine_47 ?_
  refine aw_aload_n dX1_removeLine_48 rfl ?_
  refine aw_getR dX1_removeLine_49 flX1_28 hB.o hB.p7 ?_
  refine aw_iload_n dX1_removeLine_52 rfl ?_
  refine aw_pc (pc2 := 53) rfl ?_
  refine aw_iload_n dX1_removeLine_53 rfl ?_
  refine aw_copyI dX1_removeLine_54 lcX1_53 hB.s7 hB.s7 rfl rfl rfl (by omega) (by omega) (Nat.le_of_ble_eq_true rfl) (by omega) rfl ?_
  refine aw_aload_n dX1_removeLine_57 rfl ?_
  refine aw_getR dX1_removeLine_58 flX1_31 hB.o hB.p8 ?_
  refine aw_iload_n dX1_removeLine_61 rfl ?_
  refine aw_iconst (v := nI 1) dX1_removeLine_62 (by decide) ?_
  refine aw_pc (pc2 := 63) rfl ?_
  refine aw_iaddN dX1_removeLine_63 ?_
  refine aw_iconst (v := nI 3) dX1_removeLine_64 (by decide) ?_
  refine aw_imulN dX1_removeLine_65 ?_
  refine aw_aload_n dX1_removeLine_66 rfl ?_
  refine aw_getR dX1_removeLine_67 flX1_31 hB.o hB.p8 ?_
  refine aw_iload_n dX1_removeLine_70 rfl ?_
  refine aw_pc (pc2 := 71) rfl ?_
  refine aw_iconst (v := nI 3) dX1_removeLine_71 (by decide) ?_
  refine aw_imulN dX1_removeLine_72 ?_
  refine aw_iload_n dX1_removeLine_73 rfl ?_
  refine aw_iconst (v := nI 3) dX1_removeLine_74 (by decide) ?_
  refine aw_imulN dX1_removeLine_75 ?_
  refine aw_copyI dX1_removeLine_76 lcX1_53 hB.s8 hB.s8 rfl rfl rfl (by omega) (by omega) (Nat.le_of_ble_eq_true rfl) (by omega) rfl ?_
  refine aw_pc (pc2 := 79) rfl ?_
  refine aw_aload_n dX1_removeLine_79 rfl ?_
  refine aw_dup dX1_removeLine_80 rfl ?_
  refine aw_getIv (v := nI m) dX1_removeLine_81 flX1_37 hB.o (by first | exact h2 | (simp (disch := omega) only [aw_cp_off, aw_up_off, aw_wr_off, aw_fill_off, aw_fr_off]; exact h2)) ?_
  refine aw_iconst (v := nI 1) dX1_removeLine_84 (by decide) ?_
  refine aw_isubN dX1_removeLine_85 (by omega) ?_
  refine aw_putI dX1_removeLine_86 fwX1_37 hB.o rfl ?_
  refine aw_pc (pc2 := 89) rfl ?_
  exact aw_vret dX1_removeLine_89 rfl (hQ) (Nat.zero_le _) (Nat.zero_le _)

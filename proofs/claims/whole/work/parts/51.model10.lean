/-! THE REFERENCE: the book -/
theorem dec_nI {k : Nat} (h : 0 < k) : nI k + Int32.ofInt (-1) = nI (k - 1) := by
  have e : nI (k - 1) + nI 1 = nI k := by rw [nI_add, show k - 1 + 1 = k by omega]
  rw [← e, show nI 1 = (1 : Int32) from rfl, show Int32.ofInt (-1) = (-1 : Int32) from rfl]
  grind
def so_P (I I' : aw_MI) (J J' : aw_MJ) (v : Int32) : Prop := (∀ a k, ¬ (a = 65 ∧ k = 8) → ¬ a = 70 → I' a k = I a k) ∧ I' 70 0 = v ∧ (∀ j, j < 7 → I' 70 (j + 1) = I 70 j) ∧ I' 65 8 = I 65 8 + nI 1 ∧ (∀ a k, ¬ (a = 65 ∧ k = 9) → J' a k = J a k) ∧ J' 65 9 = J 65 9 * 31 + v.toInt64
def tq_P (I0 I : aw_MI) (k : Nat) : Prop := (∀ a, a ≠ 70 → I a = I0 a) ∧ ∀ j, I 70 j = if k < j ∧ j < 8 then I0 70 (j - 1) else I0 70 j
theorem tq_s {I0 I : aw_MI} {k : Nat} (h : tq_P I0 I k) (h0 : 0 < k) (h8 : k < 8) : tq_P I0 (aw_up I 70 k (I 70 (k - 1))) (k - 1) := by
  refine ⟨fun a ha => by rw [aw_up_off I _ ha, h.1 a ha], fun j => ?_⟩
  by_cases e : j = k
  · rw [e, aw_up_self, h.2 (k - 1), if_neg (by omega), if_pos (by omega)]
  · rw [aw_up_ne I _ (Or.inr e), h.2 j]
    by_cases e2 : k < j ∧ j < 8
    · rw [if_pos e2, if_pos (by omega)]
    · rw [if_neg e2, if_neg (by omega)]
theorem nI_pos2 {k : Nat} (h : 0 < k) (h2 : k < 2 ^ 31) : 0 < nI k := (nI_ltI (a := 0) (by decide) h2).mpr h
theorem lX8_solve2 {G : aw_G} {d : Nat} {Ω : aw_O} {J : aw_MJ} {Q : Int32 → aw_O → aw_MI → aw_MJ → Prop} {v : Int32} {I0 : aw_MI} (hM : aw_model Ω 65) (hQ : ∀ I' J', so_P I0 I' J J' v → Q v Ω I' J') : ∀ (z k : Nat) (I : aw_MI), k < 8 → k < z → tq_P I0 I k → AW G MX8_solve (aw_nx Ω) d 0 0 (aw_QI Q) Ω I J 0 0 [.ref (aw_ad G 65), .int v, .int (nI k), .null] 81 [] := by
  intro z
  induction z with
  | zero =>
    intro k I h0 hz hP
    exact absurd hz (by omega)
  | succ z ih =>
    intro k I h0 hz hP
    refine aw_iload_n dX8_solve_81 rfl ?_
    refine aw_if_le (t := 105) dX8_solve_82 (by decide) (fun h1 => ?_) (fun h1 => ?_)
    · skip
      have hk : k = 0 := Classical.byContradiction fun q => absurd h1 (Int32.not_le.mpr (nI_pos2 (by omega) (by omega)))
      refine aw_aload_n dX8_solve_105 rfl ?_
      refine aw_getR dX8_solve_106 flX8_26 hM.o hM.p10 ?_
      refine aw_iconst (v := nI 0) dX8_solve_109 (by decide) ?_
      refine aw_iload_n dX8_solve_110 rfl ?_
      refine aw_iast dX8_solve_111 hM.s10 rfl (by omega) rfl ?_
      refine aw_pc (pc2 := 112) rfl ?_
      refine aw_aload_n dX8_solve_112 rfl ?_
      refine aw_aload_n dX8_solve_113 rfl ?_
      refine aw_getJ dX8_solve_114 flX8_271 hM.o ?_
      refine aw_ldc2 (v := 31) dX8_solve_117 (aw_pl 1154 (by decide +kernel) rfl) ?_
      refine aw_lmul dX8_solve_120 ?_
      refine aw_iload_n dX8_solve_121 rfl ?_
      refine aw_pc (pc2 := 122) rfl ?_
      refine aw_i2l dX8_solve_122 ?_
      refine aw_ladd dX8_solve_123 ?_
      refine aw_putJ dX8_solve_124 fwX8_271 hM.o rfl ?_
      refine aw_aload_n dX8_solve_127 rfl ?_
      refine aw_dup dX8_solve_128 rfl ?_
      refine aw_getI dX8_solve_129 flX8_276 hM.o ?_
      refine aw_pc (pc2 := 132) rfl ?_
      refine aw_iconst (v := nI 1) dX8_solve_132 (by decide) ?_
      refine aw_iadd dX8_solve_133 ?_
      refine aw_putI dX8_solve_134 fwX8_276 hM.o rfl ?_
      refine aw_iload_n dX8_solve_137 rfl ?_
      exact aw_iret dX8_solve_138 rfl (hQ _ _ ⟨fun a q h1 h2 => by rw [aw_up_ne _ _ (by omega), aw_up_off _ _ h2, hP.1 a h2], by rw [aw_up_off _ _ (by decide), aw_up_self], fun j hj => by rw [aw_up_off _ _ (by decide), aw_up_ne _ _ (Or.inr (by omega)), hP.2 (j + 1), if_pos (by omega)]; rfl, by rw [aw_up_self, aw_up_off _ _ (by decide), hP.1 65 (by decide)], fun a q h1 => aw_up_ne J _ (by omega), aw_up_self _ _ _ _⟩) (Nat.zero_le _) (Nat.zero_le _)
    · skip
      have hk : 0 < k := Classical.byContradiction fun q => h1 (by rw [show k = 0 by omega]; decide)
      refine aw_aload_n dX8_solve_85 rfl ?_
      refine aw_getR dX8_solve_86 flX8_26 hM.o hM.p10 ?_
      refine aw_iload_n dX8_solve_89 rfl ?_
      refine aw_aload_n dX8_solve_90 rfl ?_
      refine aw_getR dX8_solve_91 flX8_26 hM.o hM.p10 ?_
      refine aw_pc (pc2 := 94) rfl ?_
      refine aw_iload_n dX8_solve_94 rfl ?_
      refine aw_iconst (v := nI 1) dX8_solve_95 (by decide) ?_
      refine aw_isubN dX8_solve_96 (by omega) ?_
      refine aw_iald dX8_solve_97 hM.s10 rfl (by omega) ?_
      refine aw_iast dX8_solve_98 hM.s10 rfl (by omega) rfl ?_
      refine aw_iinc dX8_solve_99 rfl rfl (by decide) ?_
      refine aw_lv (lv2 := [.ref _, .int _, .int _, .null]) rfl ?_
      refine aw_pc (pc2 := 102) rfl ?_
      refine aw_goto (t := 81) dX8_solve_102 (by decide) ?_
      rw [dec_nI hk]
      exact ih (k - 1) _ (by omega) (by omega) (tq_s hP hk (by omega))
theorem lX8_solve1 {G : aw_G} {d : Nat} {Ω : aw_O} {I : aw_MI} {J : aw_MJ} {Q : Int32 → aw_O → aw_MI → aw_MJ → Prop} {v : Int32} (hM : aw_model Ω 65) (hQ : ∀ I' J', so_P I I' J J' v → Q v Ω I' J') : AW G MX8_solve (aw_nx Ω) d 0 0 (aw_QI Q) Ω I J 0 0 [.ref (aw_ad G 65), .int v, .null, .null] 78 [] := by
  refine aw_bipush (v := nI 7) dX8_solve_78 (by decide) ?_
  refine aw_istore_n dX8_solve_80 (by decide) ?_
  refine aw_lv (lv2 := [.ref _, .int _, .int _, .null]) rfl ?_
  exact lX8_solve2 (I0 := I) hM hQ 8 7 I (by decide) (by decide) ⟨fun _ _ => rfl, fun j => by rw [if_neg (by omega)]⟩
def sp_ofR (p : Int64 × Int64) (a b : Int64) : Int64 × Int64 := if p.2 = 0 then (a, b) else if sp_lesR 140 a b p.1 p.2 = 0 then p else (a, b)
def bq_P (I I' : aw_MI) (J J' : aw_MJ) (v : Int32) (p : Int64 × Int64) : Prop := (∀ a k, ¬ (a = 65 ∧ (k = 8 ∨ k = 13)) → ¬ (a = 70 ∨ a = 77) → I' a k = I a k) ∧ I' 70 0 = v ∧ (∀ j, j < 7 → I' 70 (j + 1) = I 70 j) ∧ I' 65 8 = I 65 8 + nI 1 ∧ (∀ a k, ¬ (a = 71 ∨ a = 72 ∨ a = 73 ∨ a = 74 ∨ a = 75 ∨ a = 76 ∨ a = 78) → ¬ (a = 65 ∧ (k = 18 ∨ k = 9 ∨ k = 11 ∨ k = 12)) → J' a k = J a k) ∧ J' 65 9 = J 65 9 * 31 + v.toInt64 ∧ J' 65 11 = p.1 ∧ J' 65 12 = p.2
theorem bq_mk {I I1 I' : aw_MI} {J J1 J2 J' : aw_MJ} {v : Int32} {p : Int64 × Int64} (a : mr_I I I1) (b : mr_J J J1) (c : ∀ a k, ¬ (a = 65 ∧ (k = 11 ∨ k = 12)) → J2 a k = J1 a k) (c1 : J2 65 11 = p.1) (c2 : J2 65 12 = p.2) (h : so_P I1 I' J2 J' v) : bq_P I I' J J' v p := by
  obtain ⟨h1, h2, h3, h4, h5, h6⟩ := h
  refine ⟨fun q k e1 e2 => ?_, h2, fun j hj => ?_, ?_, fun q k e1 e2 => ?_, ?_, ?_, ?_⟩
  · rw [h1 q k (by omega) (by omega)]; exact a q k (by omega) (by omega)
  · rw [h3 j hj]; exact a 70 j (by omega) (by omega)
  · rw [h4, a 65 8 (by decide) (by decide)]
  · rw [h5 q k (by omega), c q k (by omega)]; exact b q k e1 (by omega)
  · rw [h6, c 65 9 (by decide), b 65 9 (by decide) (by decide)]
  · rw [h5 65 11 (by decide), c1]
  · rw [h5 65 12 (by decide), c2]
theorem tX8_solve {G : aw_G} {d : Nat} {Ω : aw_O} {I : aw_MI} {J : aw_MJ} {Q : Int32 → aw_O → aw_MI → aw_MJ → Prop} {n m : Nat} (hM : aw_model Ω 65) (hn : I 65 0 = nI n) (hn3 : n ≤ 3) (hm : I 65 4 = nI m) (hm6 : m ≤ 6) (hd : 160 ≤ d) (hb : ∀ w, w < 2 ^ m → ¬ rp_ac (I 66) n = 0 → rx_gb I n m (nI (2 ^ m - 1)) (I 65 3) w = true → 0 < 2 * rx_b I n m w) (hl : J 65 12 = 0 ∨ 0 < J 65 12) (kS : ∀ I' J', rp_ac (I 66) n = 0 → mr_I I I' → mr_J J J' → Q (-3) Ω I' J') (kN : ∀ I' J', ¬ rp_ac (I 66) n = 0 → rx_res I n m (2 ^ m - 1) = -1 → bq_P I I' J J' (-1) (J 65 11, J 65 12) → Q (-1) Ω I' J') (hQ : ∀ w I' J', ¬ rp_ac (I 66) n = 0 → w < 2 ^ m → rx_gb I n m (nI (2 ^ m - 1)) (I 65 3) w = true → rx_res I n m (2 ^ m - 1) = nI w → bq_P I I' J J' (nI w) (sp_ofR (J 65 11, J 65 12) (rx_wo I n m w (I 65 3)) (2 * rx_b I n m w)) → Q (nI w) Ω I' J') : aw_Call G MX8_solve d 0 0 [.ref (aw_ad G 65)] Ω I J (aw_QI Q) := by
  refine aw_enter (by decide +kernel) rfl (Nat.le_of_ble_eq_true rfl) ?_
  show AW G MX8_solve (aw_nx Ω) d 0 0 (aw_QI Q) Ω I J 0 0 [.ref (aw_ad G 65), .null, .null, .null] 0 []
  refine aw_aload_n dX8_solve_0 rfl ?_
  refine aw_cvI (As := []) (d' := d - 1) dX8_solve_1 lkX8_146 hM.o (by omega) rfl rfl (Nat.le_of_ble_eq_true rfl) ⟨Nat.le_refl _, Nat.le_refl _⟩ (tX8_proper hM hn hn3 (by omega) ?_)
  · skip
    intro I0 J0 fI0 fJ0
    have hn0 : I0 65 0 = nI n := by rw [fI0 65 0 (by decide) (by decide)]; exact hn
    have hm0 : I0 65 4 = nI m := by rw [fI0 65 4 (by decide) (by decide)]; exact hm
    have ht0 : I0 65 3 = I 65 3 := fI0 65 3 (by decide) (by decide)
    refine aw_if_ne (t := 10) dX8_solve_4 (by decide) (fun h1 => ?_) (fun h1 => ?_)
    · skip
      refine aw_aload_n dX8_solve_10 rfl ?_
      refine aw_aload_n dX8_solve_11 rfl ?_
      refine aw_cvI (As := []) (d' := d - 1) dX8_solve_12 lkX8_220 hM.o (by omega) rfl rfl (Nat.le_of_ble_eq_true rfl) ⟨Nat.le_refl _, Nat.le_refl _⟩ (tX8_all hM hm0 ?_)
      refine aw_toI (sp_all_nI m (by omega)) ?_
      refine aw_cvI (As := [_]) (d' := d - 1) dX8_solve_15 lkX8_190 hM.o (by omega) rfl rfl (Nat.le_of_ble_eq_true rfl) ⟨Nat.le_refl _, Nat.le_refl _⟩ (tX8_works hM hn0 hn3 hm0 hm6 (Nat.sub_lt (Nat.pos_of_ne_zero (by simp)) (by decide)) (by omega) ?_ ?_)
      · skip
        intro I1 J1 a1 b1 f1
        rw [show cx_find (rx_gb I0 n m (nI ((2 ^ m - 1))) (I0 65 3)) (nI ((2 ^ m - 1))) ((2 ^ m - 1) + 1) 0 = rx_res I n m ((2 ^ m - 1)) from rx_res_c fI0.E ht0] at f1
        have fI1 := fI0.tr a1
        have fJ1 := fJ0.tr b1
        have j11 : ∀ X : aw_MJ, X = J1 → X 65 11 = J 65 11 := fun X e => by rw [e]; exact fJ1 65 11 (by decide) (by decide)
        have j12 : ∀ X : aw_MJ, X = J1 → X 65 12 = J 65 12 := fun X e => by rw [e]; exact fJ1 65 12 (by decide) (by decide)
        refine aw_istore_n dX8_solve_18 (by decide) ?_
        refine aw_lv (lv2 := [.ref _, .int _, .null, .null]) rfl ?_
        refine aw_iload_n dX8_solve_19 rfl ?_
        refine aw_iconst (v := -1) dX8_solve_20 (by decide) ?_
        refine aw_icmp_eq (t := 78) dX8_solve_21 (by decide) (fun h2 => ?_) (fun h2 => absurd h2 (by decide))
        exact lX8_solve1 hM (fun I' J' q => kN I' J' h1 f1 (bq_mk fI1 fJ1 (fun _ _ _ => rfl) (j11 _ rfl) (j12 _ rfl) q))
      · skip
        intro w I1 J1 hw a1 b1 g1 A1 f1
        rw [show cx_find (rx_gb I0 n m (nI ((2 ^ m - 1))) (I0 65 3)) (nI ((2 ^ m - 1))) ((2 ^ m - 1) + 1) 0 = rx_res I n m ((2 ^ m - 1)) from rx_res_c fI0.E ht0] at f1
        rw [rx_find_c (S := (2 ^ m - 1)) fI0.E, ht0] at g1
        rw [rx_At_c fI0.E, ht0] at A1
        have fI1 := fI0.tr a1
        have fJ1 := fJ0.tr b1
        have h64 : 2 ^ m ≤ 2 ^ 6 := Nat.pow_le_pow_right (by decide) hm6
        have hne : ¬ nI w = -1 := fun q => absurd (show (0 : Int32) ≤ -1 from q ▸ nI_pos' (by omega)) (by decide)
        have j11 : ∀ X : aw_MJ, X = J1 → X 65 11 = J 65 11 := fun X e => by rw [e]; exact fJ1 65 11 (by decide) (by decide)
        have j12 : ∀ X : aw_MJ, X = J1 → X 65 12 = J 65 12 := fun X e => by rw [e]; exact fJ1 65 12 (by decide) (by decide)
        refine aw_istore_n dX8_solve_18 (by decide) ?_
        refine aw_lv (lv2 := [.ref _, .int _, .null, .null]) rfl ?_
        refine aw_iload_n dX8_solve_19 rfl ?_
        refine aw_iconst (v := -1) dX8_solve_20 (by decide) ?_
        refine aw_icmp_eq (t := 78) dX8_solve_21 (by decide) (fun h3 => ?_) (fun h3 => ?_)
        · skip
          exact absurd h3 hne
        · skip
          have hn1 : I1 65 0 = nI n := by rw [fI1 65 0 (by decide) (by decide)]; exact hn
          have hm1 : I1 65 4 = nI m := by rw [fI1 65 4 (by decide) (by decide)]; exact hm
          have ht1 : I1 65 3 = I 65 3 := fI1 65 3 (by decide) (by decide)
          have hE1 := fI1.E
          have bne := rx_bne g1
          have hw2 : w < 2 ^ m := Nat.lt_of_le_of_lt hw (Nat.sub_lt (Nat.pos_of_ne_zero (by simp)) (by decide))
          refine aw_aload_n dX8_solve_24 rfl ?_
          refine aw_cvL (As := []) (d' := d - 1) dX8_solve_25 lkX8_207 hM.o (by omega) rfl rfl (Nat.le_of_ble_eq_true rfl) ⟨Nat.le_refl _, Nat.le_refl _⟩ (tX8_worthOf hM hn1 hn3 hm1 hm6 (by omega) ?_)
          refine aw_toL (rp_wo_at hE1 ht1 hm6 A1) ?_
          refine aw_lstore_n dX8_solve_28 (by decide) ?_
          refine aw_lv (lv2 := [.ref _, .int _, .long _, .null]) rfl ?_
          refine aw_aload_n dX8_solve_29 rfl ?_
          refine aw_getJ dX8_solve_30 flX8_265 hM.o ?_
          refine aw_pc (pc2 := 33) rfl ?_
          refine aw_lconst (v := 0) dX8_solve_33 (by decide) ?_
          refine aw_lcmp dX8_solve_34 ?_
          refine aw_if_eq (t := 61) dX8_solve_35 (by decide) (fun h4 => ?_) (fun h4 => ?_)
          · skip
            refine aw_aload_n dX8_solve_61 rfl ?_
            refine aw_lload_n dX8_solve_62 rfl ?_
            refine aw_putJ dX8_solve_63 fwX8_268 hM.o rfl ?_
            refine aw_aload_n dX8_solve_66 rfl ?_
            refine aw_ldc2 (v := 2) dX8_solve_67 (aw_pl 928 (by decide +kernel) rfl) ?_
            refine aw_pc (pc2 := 70) rfl ?_
            refine aw_aload_n dX8_solve_70 rfl ?_
            refine aw_getJ dX8_solve_71 flX8_161 hM.o ?_
            refine aw_toL (show aw_up J1 65 11 _ 65 18 = rx_b I n m w from (aw_up_ne J1 _ (by decide)).trans A1.1) ?_
            refine aw_lmul dX8_solve_74 ?_
            refine aw_putJ dX8_solve_75 fwX8_265 hM.o rfl ?_
            try simp only [lcmpE, lcmpL, lcmpG, lcmpLE, lcmpGT, nrm_le, nrm_le64, Classical.not_not] at h1
            try simp only [lcmpE, lcmpL, lcmpG, lcmpLE, lcmpGT, nrm_le, nrm_le64, Classical.not_not] at h3
            try simp only [lcmpE, lcmpL, lcmpG, lcmpLE, lcmpGT, nrm_le, nrm_le64, Classical.not_not] at h4
            refine aw_frg 2 ?_
            exact lX8_solve1 hM (fun I' J' q => hQ w I' J' h1 hw2 g1 f1 (by rw [sp_ofR, if_pos (by show J 65 12 = 0; rw [← j12 J1 rfl]; exact h4)]; exact bq_mk (J2 := aw_up (aw_up J1 65 11 (rx_wo I n m w (I 65 3))) 65 12 (2 * rx_b I n m w)) fI1 fJ1 (fun a k h9 => by rw [aw_up_ne _ _ (by omega), aw_up_ne _ _ (by omega)]) (by rw [aw_up_ne _ _ (by decide), aw_up_self]) (aw_up_self _ _ _ _) q))
          · skip
            refine aw_lload_n dX8_solve_38 rfl ?_
            refine aw_ldc2 (v := 2) dX8_solve_39 (aw_pl 928 (by decide +kernel) rfl) ?_
            refine aw_aload_n dX8_solve_42 rfl ?_
            refine aw_getJ dX8_solve_43 flX8_161 hM.o ?_
            refine aw_toL A1.1 ?_
            refine aw_lmul dX8_solve_46 ?_
            refine aw_pc (pc2 := 47) rfl ?_
            refine aw_aload_n dX8_solve_47 rfl ?_
            refine aw_getJ dX8_solve_48 flX8_268 hM.o ?_
            refine aw_aload_n dX8_solve_51 rfl ?_
            refine aw_getJ dX8_solve_52 flX8_265 hM.o ?_
            refine aw_csI (As := [_, _, _, _]) (d' := d - 1) dX8_solve_55 lkX8_80 (by omega) rfl rfl (Nat.le_of_ble_eq_true rfl) ⟨Nat.le_refl _, Nat.le_refl _⟩ (tX8_isLess (z := 140) (by omega) (lesT_140 (hb w hw2 h1 g1) (by rw [j12 J1 rfl]; exact hl.resolve_left (fun q => h4 (lcmpE.mpr (by rw [j12 J1 rfl]; exact q))))) ?_)
            refine aw_if_eq (t := 78) dX8_solve_58 (by decide) (fun h5 => ?_) (fun h5 => ?_)
            · skip
              try simp only [lcmpE, lcmpL, lcmpG, lcmpLE, lcmpGT, nrm_le, nrm_le64, Classical.not_not] at h1
              try simp only [lcmpE, lcmpL, lcmpG, lcmpLE, lcmpGT, nrm_le, nrm_le64, Classical.not_not] at h3
              try simp only [lcmpE, lcmpL, lcmpG, lcmpLE, lcmpGT, nrm_le, nrm_le64, Classical.not_not] at h4
              try simp only [lcmpE, lcmpL, lcmpG, lcmpLE, lcmpGT, nrm_le, nrm_le64, Classical.not_not] at h5
              refine aw_frg 2 ?_
              exact lX8_solve1 hM (fun I' J' q => hQ w I' J' h1 hw2 g1 f1 (by rw [sp_ofR, if_neg (by show ¬ J 65 12 = 0; rw [← j12 J1 rfl]; exact h4), if_pos (by rw [← j12 J1 rfl, ← j11 J1 rfl]; exact h5)]; exact bq_mk fI1 fJ1 (fun _ _ _ => rfl) (j11 _ rfl) (j12 _ rfl) q))
            · skip
              refine aw_aload_n dX8_solve_61 rfl ?_
              refine aw_lload_n dX8_solve_62 rfl ?_
              refine aw_putJ dX8_solve_63 fwX8_268 hM.o rfl ?_
              refine aw_aload_n dX8_solve_66 rfl ?_
              refine aw_ldc2 (v := 2) dX8_solve_67 (aw_pl 928 (by decide +kernel) rfl) ?_
              refine aw_pc (pc2 := 70) rfl ?_
              refine aw_aload_n dX8_solve_70 rfl ?_
              refine aw_getJ dX8_solve_71 flX8_161 hM.o ?_
              refine aw_toL (show aw_up J1 65 11 _ 65 18 = rx_b I n m w from (aw_up_ne J1 _ (by decide)).trans A1.1) ?_
              refine aw_lmul dX8_solve_74 ?_
              refine aw_putJ dX8_solve_75 fwX8_265 hM.o rfl ?_
              try simp only [lcmpE, lcmpL, lcmpG, lcmpLE, lcmpGT, nrm_le, nrm_le64, Classical.not_not] at h1
              try simp only [lcmpE, lcmpL, lcmpG, lcmpLE, lcmpGT, nrm_le, nrm_le64, Classical.not_not] at h3
              try simp only [lcmpE, lcmpL, lcmpG, lcmpLE, lcmpGT, nrm_le, nrm_le64, Classical.not_not] at h4
              try simp only [lcmpE, lcmpL, lcmpG, lcmpLE, lcmpGT, nrm_le, nrm_le64, Classical.not_not] at h5
              refine aw_frg 2 ?_
              exact lX8_solve1 hM (fun I' J' q => hQ w I' J' h1 hw2 g1 f1 (by rw [sp_ofR, if_neg (by show ¬ J 65 12 = 0; rw [← j12 J1 rfl]; exact h4), if_neg (by rw [← j12 J1 rfl, ← j11 J1 rfl]; exact h5)]; exact bq_mk (J2 := aw_up (aw_up J1 65 11 (rx_wo I n m w (I 65 3))) 65 12 (2 * rx_b I n m w)) fI1 fJ1 (fun a k h9 => by rw [aw_up_ne _ _ (by omega), aw_up_ne _ _ (by omega)]) (by rw [aw_up_ne _ _ (by decide), aw_up_self]) (aw_up_self _ _ _ _) q))
    · skip
      refine aw_bipush (v := -3) dX8_solve_7 (by decide) ?_
      exact aw_iret dX8_solve_9 rfl (kS I0 J0 h1 fI0 fJ0) (Nat.zero_le _) (Nat.zero_le _)
theorem tX8_notes {G : aw_G} {d : Nat} {Ω : aw_O} {I : aw_MI} {J : aw_MJ} {Q : Int32 → aw_O → aw_MI → aw_MJ → Prop} (hM : aw_model Ω 65) (hQ : Q (I 65 8) Ω I J) : aw_Call G MX8_notes d 0 0 [.ref (aw_ad G 65)] Ω I J (aw_QI Q) := by
  refine aw_enter (by decide +kernel) rfl (Nat.le_of_ble_eq_true rfl) ?_
  show AW G MX8_notes (aw_nx Ω) d 0 0 (aw_QI Q) Ω I J 0 0 [.ref (aw_ad G 65)] 0 []
  refine aw_aload_n dX8_notes_0 rfl ?_
  refine aw_getI dX8_notes_1 flX8_276 hM.o ?_
  exact aw_iret dX8_notes_4 rfl (hQ) (Nat.zero_le _) (Nat.zero_le _)
theorem tX8_mark {G : aw_G} {d : Nat} {Ω : aw_O} {I : aw_MI} {J : aw_MJ} {Q : Int64 → aw_O → aw_MI → aw_MJ → Prop} (hM : aw_model Ω 65) (hQ : Q (J 65 9) Ω I J) : aw_Call G MX8_mark d 0 0 [.ref (aw_ad G 65)] Ω I J (aw_QL Q) := by
  refine aw_enter (by decide +kernel) rfl (Nat.le_of_ble_eq_true rfl) ?_
  show AW G MX8_mark (aw_nx Ω) d 0 0 (aw_QL Q) Ω I J 0 0 [.ref (aw_ad G 65)] 0 []
  refine aw_aload_n dX8_mark_0 rfl ?_
  refine aw_getJ dX8_mark_1 flX8_271 hM.o ?_
  exact aw_lret dX8_mark_4 rfl (hQ) (Nat.zero_le _) (Nat.zero_le _)
theorem tX8_trail {G : aw_G} {d : Nat} {Ω : aw_O} {I : aw_MI} {J : aw_MJ} {Q : Int32 → aw_O → aw_MI → aw_MJ → Prop} {x : Int32} (hM : aw_model Ω 65) (hd : 1 ≤ d) (kB : sp_var x 8 = 0 ∨ ¬ x < I 65 8 → Q (-12) Ω I J) (hQ : ∀ k, x = nI k → k < 8 → x < I 65 8 → Q (I 70 k) Ω I J) : aw_Call G MX8_trail d 0 0 [.ref (aw_ad G 65), .int x] Ω I J (aw_QI Q) := by
  refine aw_enter (by decide +kernel) rfl (Nat.le_of_ble_eq_true rfl) ?_
  show AW G MX8_trail (aw_nx Ω) d 0 0 (aw_QI Q) Ω I J 0 0 [.ref (aw_ad G 65), .int x] 0 []
  refine aw_iload_n dX8_trail_0 rfl ?_
  refine aw_i2l dX8_trail_1 ?_
  refine aw_lconst (v := 0) dX8_trail_2 (by decide) ?_
  refine aw_ldc2 (v := 7) dX8_trail_3 (aw_pl 1167 (by decide +kernel) rfl) ?_
  refine aw_csI (As := [_, _, _]) (d' := d - 1) dX8_trail_6 lkX8_84 (by omega) rfl rfl (Nat.le_of_ble_eq_true rfl) ⟨Nat.le_refl _, Nat.le_refl _⟩ (tX8_in ?_)
  refine aw_toI (rg_7 x) ?_
  refine aw_pc (pc2 := 9) rfl ?_
  refine aw_if_eq (t := 29) dX8_trail_9 (by decide) (fun h1 => ?_) (fun h1 => ?_)
  · skip
    refine aw_bipush (v := -12) dX8_trail_29 (by decide) ?_
    exact aw_iret dX8_trail_31 rfl (kB (Or.inl h1)) (Nat.zero_le _) (Nat.zero_le _)
  · skip
    obtain ⟨k, hk, rfl⟩ := sp_var1 h1
    refine aw_iload_n dX8_trail_12 rfl ?_
    refine aw_aload_n dX8_trail_13 rfl ?_
    refine aw_getI dX8_trail_14 flX8_276 hM.o ?_
    refine aw_icmp_ge (t := 29) dX8_trail_17 (by decide) (fun h2 => ?_) (fun h2 => ?_)
    · skip
      refine aw_bipush (v := -12) dX8_trail_29 (by decide) ?_
      exact aw_iret dX8_trail_31 rfl (kB (Or.inr (Int32.not_lt.mpr h2))) (Nat.zero_le _) (Nat.zero_le _)
    · skip
      refine aw_aload_n dX8_trail_20 rfl ?_
      refine aw_getR dX8_trail_21 flX8_26 hM.o hM.p10 ?_
      refine aw_iload_n dX8_trail_24 rfl ?_
      refine aw_iald dX8_trail_25 hM.s10 rfl (by omega) ?_
      refine aw_goto (t := 31) dX8_trail_26 (by decide) ?_
      exact aw_iret dX8_trail_31 rfl (hQ k rfl hk (Int32.not_le.mp h2)) (Nat.zero_le _) (Nat.zero_le _)
theorem tX8_least {G : aw_G} {d : Nat} {Ω : aw_O} {I : aw_MI} {J : aw_MJ} {Q : Int64 → aw_O → aw_MI → aw_MJ → Prop} {x : Int32} (hM : aw_model Ω 65) (hd : 2 ≤ d) (k1 : sp_part x = 0 → Q (-4611686018427387904 + (-2 : Int32).toInt64) Ω I J) (k2 : ¬ sp_part x = 0 → J 65 12 = 0 → Q (-4611686018427387904 + (-1 : Int32).toInt64) Ω I J) (hQ : ¬ sp_part x = 0 → ¬ J 65 12 = 0 → Q (lw_v (J 65 11) (J 65 12) x) Ω I J) : aw_Call G MX8_least d 0 0 [.ref (aw_ad G 65), .int x] Ω I J (aw_QL Q) := by
  refine aw_enter (by decide +kernel) rfl (Nat.le_of_ble_eq_true rfl) ?_
  show AW G MX8_least (aw_nx Ω) d 0 0 (aw_QL Q) Ω I J 0 0 [.ref (aw_ad G 65), .int x] 0 []
  refine aw_iload_n dX8_least_0 rfl ?_
  refine aw_csI (As := [_]) (d' := d - 1) dX8_least_1 lkX8_193 (by omega) rfl rfl (Nat.le_of_ble_eq_true rfl) ⟨Nat.le_refl _, Nat.le_refl _⟩ (tX8_isPart ?_)
  refine aw_if_ne (t := 15) dX8_least_4 (by decide) (fun h1 => ?_) (fun h1 => ?_)
  · skip
    refine aw_aload_n dX8_least_15 rfl ?_
    refine aw_getJ dX8_least_16 flX8_265 hM.o ?_
    refine aw_lconst (v := 0) dX8_least_19 (by decide) ?_
    refine aw_lcmp dX8_least_20 ?_
    refine aw_if_ne (t := 31) dX8_least_21 (by decide) (fun h2 => ?_) (fun h2 => ?_)
    · skip
      refine aw_aload_n dX8_least_31 rfl ?_
      refine aw_getJ dX8_least_32 flX8_268 hM.o ?_
      refine aw_aload_n dX8_least_35 rfl ?_
      refine aw_getJ dX8_least_36 flX8_265 hM.o ?_
      refine aw_iload_n dX8_least_39 rfl ?_
      refine aw_pc (pc2 := 40) rfl ?_
      refine aw_csL (As := [_, _, _]) (d' := d - 1) dX8_least_40 lkX8_203 (by omega) rfl rfl (Nat.le_of_ble_eq_true rfl) ⟨Nat.le_refl _, Nat.le_refl _⟩ (tX8_low (fun q => h2 (lcmpE.mpr q)) (by omega) ?_)
      exact aw_lret dX8_least_43 rfl (hQ h1 (fun q => h2 (lcmpE.mpr q))) (Nat.zero_le _) (Nat.zero_le _)
    · skip
      refine aw_iconst (v := -1) dX8_least_24 (by decide) ?_
      refine aw_csL (As := [_]) (d' := d - 1) dX8_least_25 lkX8_200 (by omega) rfl rfl (Nat.le_of_ble_eq_true rfl) ⟨Nat.le_refl _, Nat.le_refl _⟩ (tX8_refused ?_)
      refine aw_goto (t := 43) dX8_least_28 (by decide) ?_
      exact aw_lret dX8_least_43 rfl (k2 h1 (lcmpE.mp h2)) (Nat.zero_le _) (Nat.zero_le _)
  · skip
    refine aw_bipush (v := -2) dX8_least_7 (by decide) ?_
    refine aw_csL (As := [_]) (d' := d - 1) dX8_least_9 lkX8_200 (by omega) rfl rfl (Nat.le_of_ble_eq_true rfl) ⟨Nat.le_refl _, Nat.le_refl _⟩ (tX8_refused ?_)
    refine aw_goto (t := 43) dX8_least_12 (by decide) ?_
    exact aw_lret dX8_least_43 rfl (k1 h1) (Nat.zero_le _) (Nat.zero_le _)

/-! THE CLASS: nearest, distance -/
theorem tX7_nearest {G : aw_G} {d : Nat} {Ω : aw_O} {I : aw_MI} {J : aw_MJ} {Q : Int64 → aw_O → aw_MI → aw_MJ → Prop} {x y v u q : Int32} {n m t : Nat} (hM : aw_main Ω 0) (hn : I 1 0 = nI n) (hn3 : n ≤ 3) (hm : I 1 2 = nI m) (hm6 : m ≤ 6) (ht : I 1 1 = nI t) (hd : 6 ≤ d) (kB : sp_var u n = 0 ∨ sp_part q = 0 → Q (-4611686018427387904 + (-2 : Int32).toInt64) Ω I J) (kW : ¬ (sp_var u n = 0 ∨ sp_part q = 0) → (sp_wi x (nI 99) = 0 ∨ sp_wi y (nI 99) = 0 ∨ sp_wi v (nI 99) = 0) → Q (-4611686018427387904 + (-2 : Int32).toInt64) Ω I J) (kN : ∀ I' J', ¬ (sp_var u n = 0 ∨ sp_part q = 0) → ¬ (sp_wi x (nI 99) = 0 ∨ sp_wi y (nI 99) = 0 ∨ sp_wi v (nI 99) = 0) → sv_I 39 (nr_I I x y v) I' → sv_J 39 J J' → nr_res I n m t x y v = -1 → Q (-4611686018427387904 + (-1 : Int32).toInt64) Ω I' J') (hQ : ∀ i w I' J', u = nI i → i < n → ¬ (sp_var u n = 0 ∨ sp_part q = 0) → ¬ (sp_wi x (nI 99) = 0 ∨ sp_wi y (nI 99) = 0 ∨ sp_wi v (nI 99) = 0) → w < 2 ^ m → sv_I 39 (nr_I I x y v) I' → sv_J 39 J J' → cx_gb (nr_I I x y v) 15 n m (nI (2 ^ m - 1)) (nI t) w = true → nr_res I n m t x y v = nI w → Q (sp_told (cx_v (nr_I I x y v) 15 n m w (nI t) i) (cx_b (nr_I I x y v) 15 n m w) q) Ω I' J') : aw_Call G MX7_nearest d 0 0 [.ref (aw_ad G 0), .int x, .int y, .int v, .int u, .int q] Ω I J (aw_QL Q) := by
  refine aw_enter (by decide +kernel) rfl (Nat.le_of_ble_eq_true rfl) ?_
  show AW G MX7_nearest (aw_nx Ω) d 0 0 (aw_QL Q) Ω I J 0 0 [.ref (aw_ad G 0), .int x, .int y, .int v, .int u, .int q, .null] 0 []
  refine aw_aload_n dX7_nearest_0 rfl ?_
  refine aw_aload_n dX7_nearest_1 rfl ?_
  refine aw_iload dX7_nearest_2 rfl ?_
  refine aw_cvI (As := [_]) (d' := d - 1) dX7_nearest_4 lkX7_63 hM.o (by omega) rfl rfl (Nat.le_of_ble_eq_true rfl) ⟨Nat.le_refl _, Nat.le_refl _⟩ (tX7_isVariable hM hn ?_)
  refine aw_if_eq (t := 18) dX7_nearest_7 (by decide) (fun h1 => ?_) (fun h1 => ?_)
  · skip
    refine aw_iconst (v := nI 1) dX7_nearest_18 (by decide) ?_
    refine aw_goto (t := 23) dX7_nearest_19 (by decide) ?_
    refine aw_iload_n dX7_nearest_23 rfl ?_
    refine aw_iload_n dX7_nearest_24 rfl ?_
    refine aw_iload_n dX7_nearest_25 rfl ?_
    refine aw_cvI (As := [_, _, _, _]) (d' := d - 1) dX7_nearest_26 lkX7_216 hM.o (by omega) rfl rfl (Nat.le_of_ble_eq_true rfl) ⟨Nat.le_refl _, Nat.le_refl _⟩ (tX7_findNearB hM ?_)
    · skip
      refine aw_istore dX7_nearest_29 (by decide) ?_
      refine aw_lv (lv2 := [.ref _, .int _, .int _, .int _, .int _, .int _, .int _]) rfl ?_
      refine aw_iload dX7_nearest_31 rfl ?_
      refine aw_if_ge (t := 44) dX7_nearest_33 (by decide) (fun h2 => absurd h2 (by decide)) (fun h2 => ?_)
      refine aw_ldc2 (v := -4611686018427387904) dX7_nearest_36 (aw_pl 502 (by decide +kernel) rfl) ?_
      refine aw_iload dX7_nearest_39 rfl ?_
      refine aw_pc (pc2 := 41) rfl ?_
      refine aw_i2l dX7_nearest_41 ?_
      refine aw_ladd dX7_nearest_42 ?_
      exact aw_lret dX7_nearest_43 rfl (kB (Or.inl h1)) (Nat.zero_le _) (Nat.zero_le _)
  · skip
    have kh1 := h1
    obtain ⟨i, hi, rfl⟩ := sp_var1 h1
    refine aw_iload dX7_nearest_10 rfl ?_
    refine aw_csI (As := [_]) (d' := d - 1) dX7_nearest_12 lkX7_142 (by omega) rfl rfl (Nat.le_of_ble_eq_true rfl) ⟨Nat.le_refl _, Nat.le_refl _⟩ (tX7_isPart ?_)
    refine aw_if_ne (t := 22) dX7_nearest_15 (by decide) (fun h3 => ?_) (fun h3 => ?_)
    · skip
      refine aw_iconst (v := nI 0) dX7_nearest_22 (by decide) ?_
      refine aw_iload_n dX7_nearest_23 rfl ?_
      refine aw_iload_n dX7_nearest_24 rfl ?_
      refine aw_iload_n dX7_nearest_25 rfl ?_
      refine aw_cvI (As := [_, _, _, _]) (d' := d - 1) dX7_nearest_26 lkX7_216 hM.o (by omega) rfl rfl (Nat.le_of_ble_eq_true rfl) ⟨Nat.le_refl _, Nat.le_refl _⟩ (tX7_findNear hM hn hn3 hm hm6 ht (by omega) ?_ ?_ ?_)
      · skip
        intro p0
        refine aw_istore dX7_nearest_29 (by decide) ?_
        refine aw_lv (lv2 := [.ref _, .int _, .int _, .int _, .int _, .int _, .int _]) rfl ?_
        refine aw_iload dX7_nearest_31 rfl ?_
        refine aw_if_ge (t := 44) dX7_nearest_33 (by decide) (fun h4 => absurd h4 (by decide)) (fun h4 => ?_)
        refine aw_ldc2 (v := -4611686018427387904) dX7_nearest_36 (aw_pl 502 (by decide +kernel) rfl) ?_
        refine aw_iload dX7_nearest_39 rfl ?_
        refine aw_pc (pc2 := 41) rfl ?_
        refine aw_i2l dX7_nearest_41 ?_
        refine aw_ladd dX7_nearest_42 ?_
        exact aw_lret dX7_nearest_43 rfl (kW (by intro q; rcases q with q | q <;> exact absurd q (by assumption)) p0) (Nat.zero_le _) (Nat.zero_le _)
      · skip
        intro I1 J1 p0 a1 b1 f1
        refine aw_istore dX7_nearest_29 (by decide) ?_
        refine aw_lv (lv2 := [.ref _, .int _, .int _, .int _, .int _, .int _, .int _]) rfl ?_
        refine aw_iload dX7_nearest_31 rfl ?_
        refine aw_if_ge (t := 44) dX7_nearest_33 (by decide) (fun h5 => absurd h5 (by decide)) (fun h5 => ?_)
        refine aw_ldc2 (v := -4611686018427387904) dX7_nearest_36 (aw_pl 502 (by decide +kernel) rfl) ?_
        refine aw_iload dX7_nearest_39 rfl ?_
        refine aw_pc (pc2 := 41) rfl ?_
        refine aw_i2l dX7_nearest_41 ?_
        refine aw_ladd dX7_nearest_42 ?_
        exact aw_lret dX7_nearest_43 rfl (kN I1 J1 (by intro q; rcases q with q | q <;> exact absurd q (by assumption)) p0 a1 b1 f1) (Nat.zero_le _) (Nat.zero_le _)
      · skip
        intro w I1 J1 p0 hw a1 b1 g1 t1 A1 f1
        have h64 : 2 ^ m ≤ 2 ^ 6 := Nat.pow_le_pow_right (by decide) hm6
        have hn1 : I1 15 0 = nI n := by rw [a1.1 15 (by decide)]; exact nr_0.trans hn
        have hm1 : I1 15 2 = nI m := by rw [a1.1 15 (by decide)]; exact nr_2.trans hm
        refine aw_istore dX7_nearest_29 (by decide) ?_
        refine aw_lv (lv2 := [.ref _, .int _, .int _, .int _, .int _, .int _, .int _]) rfl ?_
        refine aw_iload dX7_nearest_31 rfl ?_
        refine aw_if_ge (t := 44) dX7_nearest_33 (by decide) (fun h6 => ?_) (fun h6 => ?_)
        · skip
          refine aw_aload_n dX7_nearest_44 rfl ?_
          refine aw_getR dX7_nearest_45 flX7_31 hM.o hM.p4 ?_
          refine aw_getR dX7_nearest_48 flX7_147 hM.q4.o hM.q4.p1 ?_
          refine aw_getR dX7_nearest_51 flX7_151 hM.q4.q1.o hM.q4.q1.p0 ?_
          refine aw_iload dX7_nearest_54 rfl ?_
          refine aw_pc (pc2 := 56) rfl ?_
          refine aw_laldv (v := cx_v (nr_I I x y v) 15 n m w (nI t) i) dX7_nearest_56 hM.q4.q1.s0 rfl (by omega) (A1.2.2.1 i hi).1 ?_
          refine aw_aload_n dX7_nearest_57 rfl ?_
          refine aw_getR dX7_nearest_58 flX7_31 hM.o hM.p4 ?_
          refine aw_getR dX7_nearest_61 flX7_147 hM.q4.o hM.q4.p1 ?_
          refine aw_getJ dX7_nearest_64 flX7_157 hM.q4.q1.o ?_
          refine aw_toL A1.1 ?_
          refine aw_iload dX7_nearest_67 rfl ?_
          refine aw_pc (pc2 := 69) rfl ?_
          refine aw_csL (As := [_, _, _]) (d' := d - 1) dX7_nearest_69 lkX7_161 (by omega) rfl rfl (Nat.le_of_ble_eq_true rfl) ⟨Nat.le_refl _, Nat.le_refl _⟩ (tX3_told (by omega) ?_)
          exact aw_lret dX7_nearest_72 rfl (hQ i w I1 J1 rfl hi (by intro q; rcases q with q | q <;> exact absurd q (by assumption)) p0 (by omega) a1 b1 g1 f1) (Nat.zero_le _) (Nat.zero_le _)
        · skip
          exact absurd (nI_pos' (by omega)) h6
    · skip
      refine aw_iconst (v := nI 1) dX7_nearest_18 (by decide) ?_
      refine aw_goto (t := 23) dX7_nearest_19 (by decide) ?_
      refine aw_iload_n dX7_nearest_23 rfl ?_
      refine aw_iload_n dX7_nearest_24 rfl ?_
      refine aw_iload_n dX7_nearest_25 rfl ?_
      refine aw_cvI (As := [_, _, _, _]) (d' := d - 1) dX7_nearest_26 lkX7_216 hM.o (by omega) rfl rfl (Nat.le_of_ble_eq_true rfl) ⟨Nat.le_refl _, Nat.le_refl _⟩ (tX7_findNearB hM ?_)
      · skip
        refine aw_istore dX7_nearest_29 (by decide) ?_
        refine aw_lv (lv2 := [.ref _, .int _, .int _, .int _, .int _, .int _, .int _]) rfl ?_
        refine aw_iload dX7_nearest_31 rfl ?_
        refine aw_if_ge (t := 44) dX7_nearest_33 (by decide) (fun h7 => absurd h7 (by decide)) (fun h7 => ?_)
        refine aw_ldc2 (v := -4611686018427387904) dX7_nearest_36 (aw_pl 502 (by decide +kernel) rfl) ?_
        refine aw_iload dX7_nearest_39 rfl ?_
        refine aw_pc (pc2 := 41) rfl ?_
        refine aw_i2l dX7_nearest_41 ?_
        refine aw_ladd dX7_nearest_42 ?_
        exact aw_lret dX7_nearest_43 rfl (kB (Or.inr (h3))) (Nat.zero_le _) (Nat.zero_le _)
theorem tX7_distance {G : aw_G} {d : Nat} {Ω : aw_O} {I : aw_MI} {J : aw_MJ} {Q : Int64 → aw_O → aw_MI → aw_MJ → Prop} {x y v q : Int32} {n m t : Nat} (hM : aw_main Ω 0) (hn : I 1 0 = nI n) (hn3 : n ≤ 3) (hm : I 1 2 = nI m) (hm6 : m ≤ 6) (ht : I 1 1 = nI t) (hd : 6 ≤ d) (kB : sp_part q = 0 → Q (-4611686018427387904 + (-2 : Int32).toInt64) Ω I J) (kW : ¬ (sp_part q = 0) → (sp_wi x (nI 99) = 0 ∨ sp_wi y (nI 99) = 0 ∨ sp_wi v (nI 99) = 0) → Q (-4611686018427387904 + (-2 : Int32).toInt64) Ω I J) (kN : ∀ I' J', ¬ (sp_part q = 0) → ¬ (sp_wi x (nI 99) = 0 ∨ sp_wi y (nI 99) = 0 ∨ sp_wi v (nI 99) = 0) → sv_I 39 (nr_I I x y v) I' → sv_J 39 J J' → nr_res I n m t x y v = -1 → Q (-4611686018427387904 + (-1 : Int32).toInt64) Ω I' J') (hQ : ∀  w I' J', ¬ (sp_part q = 0) → ¬ (sp_wi x (nI 99) = 0 ∨ sp_wi y (nI 99) = 0 ∨ sp_wi v (nI 99) = 0) → w < 2 ^ m → sv_I 39 (nr_I I x y v) I' → sv_J 39 J J' → cx_gb (nr_I I x y v) 15 n m (nI (2 ^ m - 1)) (nI t) w = true → nr_res I n m t x y v = nI w → Q (sp_told (cx_wo (nr_I I x y v) 15 n m w (nI t) + sp_sq (nr_I I x y v 17) n * cx_b (nr_I I x y v) 15 n m w) (cx_b (nr_I I x y v) 15 n m w) q) Ω I' J') : aw_Call G MX7_distance d 0 0 [.ref (aw_ad G 0), .int x, .int y, .int v, .int q] Ω I J (aw_QL Q) := by
  refine aw_enter (by decide +kernel) rfl (Nat.le_of_ble_eq_true rfl) ?_
  show AW G MX7_distance (aw_nx Ω) d 0 0 (aw_QL Q) Ω I J 0 0 [.ref (aw_ad G 0), .int x, .int y, .int v, .int q, .null, .null, .null] 0 []
  refine aw_aload_n dX7_distance_0 rfl ?_
  refine aw_iload dX7_distance_1 rfl ?_
  refine aw_csI (As := [_]) (d' := d - 1) dX7_distance_3 lkX7_142 (by omega) rfl rfl (Nat.le_of_ble_eq_true rfl) ⟨Nat.le_refl _, Nat.le_refl _⟩ (tX7_isPart ?_)
  refine aw_if_ne (t := 13) dX7_distance_6 (by decide) (fun h1 => ?_) (fun h1 => ?_)
  · skip
    refine aw_iconst (v := nI 0) dX7_distance_13 (by decide) ?_
    refine aw_iload_n dX7_distance_14 rfl ?_
    refine aw_iload_n dX7_distance_15 rfl ?_
    refine aw_iload_n dX7_distance_16 rfl ?_
    refine aw_cvI (As := [_, _, _, _]) (d' := d - 1) dX7_distance_17 lkX7_216 hM.o (by omega) rfl rfl (Nat.le_of_ble_eq_true rfl) ⟨Nat.le_refl _, Nat.le_refl _⟩ (tX7_findNear hM hn hn3 hm hm6 ht (by omega) ?_ ?_ ?_)
    · skip
      intro p0
      refine aw_istore dX7_distance_20 (by decide) ?_
      refine aw_lv (lv2 := [.ref _, .int _, .int _, .int _, .int _, .int _, .null, .null]) rfl ?_
      refine aw_iload dX7_distance_22 rfl ?_
      refine aw_if_ge (t := 35) dX7_distance_24 (by decide) (fun h2 => absurd h2 (by decide)) (fun h2 => ?_)
      refine aw_ldc2 (v := -4611686018427387904) dX7_distance_27 (aw_pl 502 (by decide +kernel) rfl) ?_
      refine aw_iload dX7_distance_30 rfl ?_
      refine aw_pc (pc2 := 32) rfl ?_
      refine aw_i2l dX7_distance_32 ?_
      refine aw_ladd dX7_distance_33 ?_
      exact aw_lret dX7_distance_34 rfl (kW (by assumption) p0) (Nat.zero_le _) (Nat.zero_le _)
    · skip
      intro I1 J1 p0 a1 b1 f1
      refine aw_istore dX7_distance_20 (by decide) ?_
      refine aw_lv (lv2 := [.ref _, .int _, .int _, .int _, .int _, .int _, .null, .null]) rfl ?_
      refine aw_iload dX7_distance_22 rfl ?_
      refine aw_if_ge (t := 35) dX7_distance_24 (by decide) (fun h3 => absurd h3 (by decide)) (fun h3 => ?_)
      refine aw_ldc2 (v := -4611686018427387904) dX7_distance_27 (aw_pl 502 (by decide +kernel) rfl) ?_
      refine aw_iload dX7_distance_30 rfl ?_
      refine aw_pc (pc2 := 32) rfl ?_
      refine aw_i2l dX7_distance_32 ?_
      refine aw_ladd dX7_distance_33 ?_
      exact aw_lret dX7_distance_34 rfl (kN I1 J1 (by assumption) p0 a1 b1 f1) (Nat.zero_le _) (Nat.zero_le _)
    · skip
      intro w I1 J1 p0 hw a1 b1 g1 t1 A1 f1
      have h64 : 2 ^ m ≤ 2 ^ 6 := Nat.pow_le_pow_right (by decide) hm6
      have hn1 : I1 15 0 = nI n := by rw [a1.1 15 (by decide)]; exact nr_0.trans hn
      have hm1 : I1 15 2 = nI m := by rw [a1.1 15 (by decide)]; exact nr_2.trans hm
      refine aw_istore dX7_distance_20 (by decide) ?_
      refine aw_lv (lv2 := [.ref _, .int _, .int _, .int _, .int _, .int _, .null, .null]) rfl ?_
      refine aw_iload dX7_distance_22 rfl ?_
      refine aw_if_ge (t := 35) dX7_distance_24 (by decide) (fun h4 => ?_) (fun h4 => ?_)
      · skip
        refine aw_aload_n dX7_distance_35 rfl ?_
        refine aw_getR dX7_distance_36 flX7_31 hM.o hM.p4 ?_
        refine aw_getR dX7_distance_39 flX7_147 hM.q4.o hM.q4.p1 ?_
        refine aw_getJ dX7_distance_42 flX7_157 hM.q4.q1.o ?_
        refine aw_toL A1.1 ?_
        refine aw_lstore dX7_distance_45 (by decide) ?_
        refine aw_lv (lv2 := [.ref _, .int _, .int _, .int _, .int _, .int _, .long _, .null]) rfl ?_
        refine aw_pc (pc2 := 47) rfl ?_
        refine aw_aload_n dX7_distance_47 rfl ?_
        refine aw_getR dX7_distance_48 flX7_31 hM.o hM.p4 ?_
        refine aw_cvL (As := []) (d' := d - 1) dX7_distance_51 lkX7_167 hM.q4.o (by omega) rfl rfl (Nat.le_of_ble_eq_true rfl) ⟨Nat.le_refl _, Nat.le_refl _⟩ (tX6_twiceWorth (s := 39) (c := 15) hM.q4 hn1 hn3 hm1 hm6 (by omega) ?_)
        refine aw_toL (cx_wth (fun a ha => a1.1 a (Or.inl ha)) (by decide) t1 hm6 A1) ?_
        refine aw_aload_n dX7_distance_54 rfl ?_
        refine aw_getR dX7_distance_55 flX7_19 hM.o hM.p2 ?_
        refine aw_cvL (As := []) (d' := d - 1) dX7_distance_58 lkX7_220 hM.q2.o (by omega) rfl rfl (Nat.le_of_ble_eq_true rfl) ⟨Nat.le_refl _, Nat.le_refl _⟩ (tX1_squareOfPushes (b := 15) hM.q2 hn1 hn3 ?_)
        refine aw_toL (show _ = sp_sq (nr_I I x y v 17) n by rw [show I1 (15 + 2) = nr_I I x y v 17 from a1.1 17 (by decide)]) ?_
        refine aw_pc (pc2 := 61) rfl ?_
        refine aw_lload dX7_distance_61 rfl ?_
        refine aw_lmul dX7_distance_63 ?_
        refine aw_ladd dX7_distance_64 ?_
        refine aw_lload dX7_distance_65 rfl ?_
        refine aw_iload dX7_distance_67 rfl ?_
        refine aw_csL (As := [_, _, _]) (d' := d - 1) dX7_distance_69 lkX7_161 (by omega) rfl rfl (Nat.le_of_ble_eq_true rfl) ⟨Nat.le_refl _, Nat.le_refl _⟩ (tX3_told (by omega) ?_)
        refine aw_pc (pc2 := 72) rfl ?_
        exact aw_lret dX7_distance_72 rfl (hQ w I1 J1 (by assumption) p0 (by omega) a1 b1 g1 f1) (Nat.zero_le _) (Nat.zero_le _)
      · skip
        exact absurd (nI_pos' (by omega)) h4
  · skip
    refine aw_iconst (v := nI 1) dX7_distance_9 (by decide) ?_
    refine aw_goto (t := 14) dX7_distance_10 (by decide) ?_
    refine aw_iload_n dX7_distance_14 rfl ?_
    refine aw_iload_n dX7_distance_15 rfl ?_
    refine aw_iload_n dX7_distance_16 rfl ?_
    refine aw_cvI (As := [_, _, _, _]) (d' := d - 1) dX7_distance_17 lkX7_216 hM.o (by omega) rfl rfl (Nat.le_of_ble_eq_true rfl) ⟨Nat.le_refl _, Nat.le_refl _⟩ (tX7_findNearB hM ?_)
    · skip
      refine aw_istore dX7_distance_20 (by decide) ?_
      refine aw_lv (lv2 := [.ref _, .int _, .int _, .int _, .int _, .int _, .null, .null]) rfl ?_
      refine aw_iload dX7_distance_22 rfl ?_
      refine aw_if_ge (t := 35) dX7_distance_24 (by decide) (fun h5 => absurd h5 (by decide)) (fun h5 => ?_)
      refine aw_ldc2 (v := -4611686018427387904) dX7_distance_27 (aw_pl 502 (by decide +kernel) rfl) ?_
      refine aw_iload dX7_distance_30 rfl ?_
      refine aw_pc (pc2 := 32) rfl ?_
      refine aw_i2l dX7_distance_32 ?_
      refine aw_ladd dX7_distance_33 ?_
      exact aw_lret dX7_distance_34 rfl (kB h1) (Nat.zero_le _) (Nat.zero_le _)

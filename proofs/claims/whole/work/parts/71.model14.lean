/-! WORLDS THAT GROW; the reference: nearest, distance -/
theorem aw_bowl.ext {Ω : aw_O} {S : aw_S} {q : Nat → Option Nat} {b : Nat} (h : aw_bowl Ω b) : aw_bowl (aw_ext Ω S q) b := ⟨aw_ext_is h.o, (by rw [aw_ext_P, if_neg (Nat.ne_of_lt h.o.1)]; exact h.p3), aw_ext_is h.s3, (by rw [aw_ext_P, if_neg (Nat.ne_of_lt h.o.1)]; exact h.p4), aw_ext_is h.s4, (by rw [aw_ext_P, if_neg (Nat.ne_of_lt h.o.1)]; exact h.p5), aw_ext_is h.s5, (by rw [aw_ext_P, if_neg (Nat.ne_of_lt h.o.1)]; exact h.p6), aw_ext_is h.s6, (by rw [aw_ext_P, if_neg (Nat.ne_of_lt h.o.1)]; exact h.p7), aw_ext_is h.s7, (by rw [aw_ext_P, if_neg (Nat.ne_of_lt h.o.1)]; exact h.p8), aw_ext_is h.s8⟩
theorem aw_point.ext {Ω : aw_O} {S : aw_S} {q : Nat → Option Nat} {b : Nat} (h : aw_point Ω b) : aw_point (aw_ext Ω S q) b := ⟨aw_ext_is h.o, (by rw [aw_ext_P, if_neg (Nat.ne_of_lt h.o.1)]; exact h.p0), aw_ext_is h.s0, (by rw [aw_ext_P, if_neg (Nat.ne_of_lt h.o.1)]; exact h.p1), aw_ext_is h.s1⟩
theorem aw_sheets.ext {Ω : aw_O} {S : aw_S} {q : Nat → Option Nat} {b : Nat} (h : aw_sheets Ω b) : aw_sheets (aw_ext Ω S q) b := ⟨aw_ext_is h.o, (by rw [aw_ext_P, if_neg (Nat.ne_of_lt h.o.1)]; exact h.p0), aw_ext_is h.s0, (by rw [aw_ext_P, if_neg (Nat.ne_of_lt h.o.1)]; exact h.p1), aw_ext_is h.s1, (by rw [aw_ext_P, if_neg (Nat.ne_of_lt h.o.1)]; exact h.p2), aw_ext_is h.s2⟩
theorem aw_book.ext {Ω : aw_O} {S : aw_S} {q : Nat → Option Nat} {b : Nat} (h : aw_book Ω b) : aw_book (aw_ext Ω S q) b := aw_ext_is h.o
theorem aw_solver.ext {Ω : aw_O} {S : aw_S} {q : Nat → Option Nat} {b c : Nat} (h : aw_solver Ω b c) : aw_solver (aw_ext Ω S q) b c := ⟨aw_ext_is h.o, (by rw [aw_ext_P, if_neg (Nat.ne_of_lt h.o.1)]; exact h.p0), h.q0.ext, (by rw [aw_ext_P, if_neg (Nat.ne_of_lt h.o.1)]; exact h.p1), h.q1.ext, (by rw [aw_ext_P, if_neg (Nat.ne_of_lt h.o.1)]; exact h.p2), h.q2.ext, (by rw [aw_ext_P, if_neg (Nat.ne_of_lt h.o.1)]; exact h.p3), aw_ext_is h.s3, (by rw [aw_ext_P, if_neg (Nat.ne_of_lt h.o.1)]; exact h.p7), aw_ext_is h.s7, (by rw [aw_ext_P, if_neg (Nat.ne_of_lt h.o.1)]; exact h.p8), aw_ext_is h.s8, (by rw [aw_ext_P, if_neg (Nat.ne_of_lt h.o.1)]; exact h.p9), aw_ext_is h.s9, fun j hj => ⟨by rw [aw_ext_P, if_neg (Nat.ne_of_lt h.s7.1)]; exact (h.r j hj).1, aw_ext_is (h.r j hj).2⟩⟩
theorem aw_cert.ext {Ω : aw_O} {S : aw_S} {q : Nat → Option Nat} {b c : Nat} (h : aw_cert Ω b c) : aw_cert (aw_ext Ω S q) b c := ⟨aw_ext_is h.o, (by rw [aw_ext_P, if_neg (Nat.ne_of_lt h.o.1)]; exact h.p0), h.q0.ext, (by rw [aw_ext_P, if_neg (Nat.ne_of_lt h.o.1)]; exact h.p1), h.q1.ext⟩
theorem aw_main.ext {Ω : aw_O} {S : aw_S} {q : Nat → Option Nat} {b : Nat} (h : aw_main Ω b) : aw_main (aw_ext Ω S q) b := ⟨aw_ext_is h.o, (by rw [aw_ext_P, if_neg (Nat.ne_of_lt h.o.1)]; exact h.p0), h.q0.ext, (by rw [aw_ext_P, if_neg (Nat.ne_of_lt h.o.1)]; exact h.p1), h.q1.ext, (by rw [aw_ext_P, if_neg (Nat.ne_of_lt h.o.1)]; exact h.p2), h.q2.ext, (by rw [aw_ext_P, if_neg (Nat.ne_of_lt h.o.1)]; exact h.p3), h.q3.ext, (by rw [aw_ext_P, if_neg (Nat.ne_of_lt h.o.1)]; exact h.p4), h.q4.ext, (by rw [aw_ext_P, if_neg (Nat.ne_of_lt h.o.1)]; exact h.p5), h.q5.ext, (by rw [aw_ext_P, if_neg (Nat.ne_of_lt h.o.1)]; exact h.p6), h.q6.ext, (by rw [aw_ext_P, if_neg (Nat.ne_of_lt h.o.1)]; exact h.p7), h.q7.ext⟩
theorem aw_model.ext {Ω : aw_O} {S : aw_S} {q : Nat → Option Nat} {b : Nat} (h : aw_model Ω b) : aw_model (aw_ext Ω S q) b := ⟨aw_ext_is h.o, (by rw [aw_ext_P, if_neg (Nat.ne_of_lt h.o.1)]; exact h.p1), aw_ext_is h.s1, (by rw [aw_ext_P, if_neg (Nat.ne_of_lt h.o.1)]; exact h.p2), aw_ext_is h.s2, (by rw [aw_ext_P, if_neg (Nat.ne_of_lt h.o.1)]; exact h.p5), aw_ext_is h.s5, (by rw [aw_ext_P, if_neg (Nat.ne_of_lt h.o.1)]; exact h.p7), aw_ext_is h.s7, (by rw [aw_ext_P, if_neg (Nat.ne_of_lt h.o.1)]; exact h.p10), aw_ext_is h.s10, (by rw [aw_ext_P, if_neg (Nat.ne_of_lt h.o.1)]; exact h.p14), aw_ext_is h.s14, (by rw [aw_ext_P, if_neg (Nat.ne_of_lt h.o.1)]; exact h.p15), aw_ext_is h.s15, (by rw [aw_ext_P, if_neg (Nat.ne_of_lt h.o.1)]; exact h.p16), aw_ext_is h.s16, (by rw [aw_ext_P, if_neg (Nat.ne_of_lt h.o.1)]; exact h.p17), aw_ext_is h.s17, (by rw [aw_ext_P, if_neg (Nat.ne_of_lt h.o.1)]; exact h.p19), aw_ext_is h.s19, (by rw [aw_ext_P, if_neg (Nat.ne_of_lt h.o.1)]; exact h.p20), aw_ext_is h.s20, (by rw [aw_ext_P, if_neg (Nat.ne_of_lt h.o.1)]; exact h.p21), aw_ext_is h.s21, (by rw [aw_ext_P, if_neg (Nat.ne_of_lt h.o.1)]; exact h.p22), aw_ext_is h.s22, (by rw [aw_ext_P, if_neg (Nat.ne_of_lt h.o.1)]; exact h.p23), aw_ext_is h.s23, (by rw [aw_ext_P, if_neg (Nat.ne_of_lt h.o.1)]; exact h.p28), aw_ext_is h.s28, (by rw [aw_ext_P, if_neg (Nat.ne_of_lt h.o.1)]; exact h.p30), aw_ext_is h.s30, (by rw [aw_ext_P, if_neg (Nat.ne_of_lt h.o.1)]; exact h.p31), aw_ext_is h.s31, (by rw [aw_ext_P, if_neg (Nat.ne_of_lt h.o.1)]; exact h.p32), aw_ext_is h.s32⟩
def ng_I (N : Nat) (I I' : aw_MI) : Prop := ∀ a k, a < N → ¬ (a = 65 ∧ k = 13) → ¬ (a = 77 ∨ a = 80) → I' a k = I a k
def ng_J (N : Nat) (J J' : aw_MJ) : Prop := ∀ a k, a < N → ¬ (a = 71 ∨ a = 72 ∨ a = 73 ∨ a = 74 ∨ a = 75 ∨ a = 76 ∨ a = 78) → ¬ (a = 65 ∧ (k = 18 ∨ k = 29)) → J' a k = J a k
theorem tX8_nearest {G : aw_G} {d : Nat} {Ω : aw_O} {I : aw_MI} {J : aw_MJ} {Q : Int64 → aw_O → aw_MI → aw_MJ → Prop} {n m : Nat} (hM : aw_model Ω 65) (hn : I 65 0 = nI n) (hn3 : n ≤ 3) (hm : I 65 4 = nI m) (hm6 : m ≤ 6) {x y v u q : Int32} (hnx : 84 ≤ aw_nx Ω) (hd : 8 ≤ d) (kB : (sp_wi x (nI 99) = 0 ∨ sp_wi y (nI 99) = 0 ∨ sp_wi v (nI 99) = 0) ∨ sp_var u n = 0 ∨ sp_part q = 0 → Q (-4611686018427387904 + (-2 : Int32).toInt64) Ω I J) (kN : ∀ i I' J', u = nI i → i < n → ¬ ((sp_wi x (nI 99) = 0 ∨ sp_wi y (nI 99) = 0 ∨ sp_wi v (nI 99) = 0) ∨ sp_var u n = 0 ∨ sp_part q = 0) → ng_I (aw_nx Ω) I I' → ng_J (aw_nx Ω) J J' → rx_res (nx_I I x y v) n m (2 ^ m - 1) = -1 → Q (-4611686018427387904 + (-1 : Int32).toInt64) (aw_ext Ω (.inr (0, 3)) (fun _ => none)) I' J') (hQ : ∀ i w I' J', u = nI i → i < n → ¬ ((sp_wi x (nI 99) = 0 ∨ sp_wi y (nI 99) = 0 ∨ sp_wi v (nI 99) = 0) ∨ sp_var u n = 0 ∨ sp_part q = 0) → w < 2 ^ m → ng_I (aw_nx Ω) I I' → ng_J (aw_nx Ω) J J' → rx_gb (nx_I I x y v) n m (nI (2 ^ m - 1)) (I 65 3) w = true → rx_res (nx_I I x y v) n m (2 ^ m - 1) = nI w → Q (lw_v (rx_v (nx_I I x y v) n m w (I 65 3) i) (rx_b (nx_I I x y v) n m w) q) (aw_ext Ω (.inr (0, 3)) (fun _ => none)) I' J') : aw_Call G MX8_nearest d 1 3 [.ref (aw_ad G 65), .int x, .int y, .int v, .int u, .int q] Ω I J (aw_QL Q) := by
  refine aw_enter (by decide +kernel) rfl (Nat.le_of_ble_eq_true rfl) ?_
  show AW G MX8_nearest (aw_nx Ω) d 1 3 (aw_QL Q) Ω I J 0 0 [.ref (aw_ad G 65), .int x, .int y, .int v, .int u, .int q, .null] 0 []
  refine aw_iload_n dX8_nearest_0 rfl ?_
  refine aw_iload_n dX8_nearest_1 rfl ?_
  refine aw_iload_n dX8_nearest_2 rfl ?_
  refine aw_csI (As := [_, _, _]) (d' := d - 1) dX8_nearest_3 lkX8_243 (by omega) rfl rfl (Nat.le_of_ble_eq_true rfl) (by decide) (tX8_isPlace (by omega) ?_ ?_)
  · skip
    intro hw9
    refine aw_if_eq (t := 26) dX8_nearest_6 (by decide) (fun h1 => ?_) (fun h1 => absurd h1 (by decide))
    refine aw_bipush (v := -2) dX8_nearest_26 (by decide) ?_
    refine aw_csL (As := [_]) (d' := d - 1) dX8_nearest_28 lkX8_200 (by omega) rfl rfl (Nat.le_of_ble_eq_true rfl) (by decide) (tX8_refused ?_)
    exact aw_lret dX8_nearest_31 rfl (kB (Or.inl hw9)) (by decide) (by decide)
  · skip
    intro hw9
    refine aw_if_eq (t := 26) dX8_nearest_6 (by decide) (fun h2 => absurd h2 (by decide)) (fun h2 => ?_)
    refine aw_aload_n dX8_nearest_9 rfl ?_
    refine aw_iload dX8_nearest_10 rfl ?_
    refine aw_cvI (As := [_]) (d' := d - 1) dX8_nearest_12 lkX8_96 hM.o (by omega) rfl rfl (Nat.le_of_ble_eq_true rfl) (by decide) (tX8_isVariable hM hn hn3 (by omega) ?_)
    refine aw_if_eq (t := 26) dX8_nearest_15 (by decide) (fun h3 => ?_) (fun h3 => ?_)
    · skip
      refine aw_bipush (v := -2) dX8_nearest_26 (by decide) ?_
      refine aw_csL (As := [_]) (d' := d - 1) dX8_nearest_28 lkX8_200 (by omega) rfl rfl (Nat.le_of_ble_eq_true rfl) (by decide) (tX8_refused ?_)
      exact aw_lret dX8_nearest_31 rfl (kB (Or.inr (Or.inl h3))) (by decide) (by decide)
    · skip
      have kh3 := h3
      obtain ⟨i, hi, rfl⟩ := sp_var1 h3
      refine aw_iload dX8_nearest_18 rfl ?_
      refine aw_csI (As := [_]) (d' := d - 1) dX8_nearest_20 lkX8_193 (by omega) rfl rfl (Nat.le_of_ble_eq_true rfl) (by decide) (tX8_isPart ?_)
      refine aw_if_ne (t := 32) dX8_nearest_23 (by decide) (fun h4 => ?_) (fun h4 => ?_)
      · skip
        refine aw_iconst (v := nI 3) dX8_nearest_32 (by decide) ?_
        refine aw_newaI (N := 3) dX8_nearest_33 (by decide) (by decide) (by decide) ?_
        have hM2 : aw_model (aw_ext Ω (.inr (0, 3)) (fun _ => none)) 65 := hM.ext
        have hA2 : aw_is (aw_ext Ω (.inr (0, 3)) (fun _ => none)) (aw_nx Ω) (.inr (0, 3)) := aw_ext_new _ _ _
        have hI3 : ∀ a, a < aw_nx Ω → (aw_up (aw_up (aw_up (aw_z I (aw_nx Ω) 0) (aw_nx Ω) 0 x) (aw_nx Ω) 1 y) (aw_nx Ω) 2 v) a = I a := fun a ha => by rw [aw_up_off _ _ (by omega), aw_up_off _ _ (by omega), aw_up_off _ _ (by omega), aw_z_off _ _ (by omega)]
        have hJ3 : ∀ a, a < aw_nx Ω → (aw_z J (aw_nx Ω) 0) a = J a := fun a ha => aw_z_off _ _ (by omega)
        have hn2 : (aw_up (aw_up (aw_up (aw_z I (aw_nx Ω) 0) (aw_nx Ω) 0 x) (aw_nx Ω) 1 y) (aw_nx Ω) 2 v) 65 0 = nI n := by rw [hI3 65 (by omega)]; exact hn
        have hm2 : (aw_up (aw_up (aw_up (aw_z I (aw_nx Ω) 0) (aw_nx Ω) 0 x) (aw_nx Ω) 1 y) (aw_nx Ω) 2 v) 65 4 = nI m := by rw [hI3 65 (by omega)]; exact hm
        have ht2 : (aw_up (aw_up (aw_up (aw_z I (aw_nx Ω) 0) (aw_nx Ω) 0 x) (aw_nx Ω) 1 y) (aw_nx Ω) 2 v) 65 3 = I 65 3 := by rw [hI3 65 (by omega)]
        have hp2 : ∀ i, i < 3 → (aw_up (aw_up (aw_up (aw_z I (aw_nx Ω) 0) (aw_nx Ω) 0 x) (aw_nx Ω) 1 y) (aw_nx Ω) 2 v) (aw_nx Ω) i = nx_p x y v i := fun i hi => by
            match i, hi with
            | 0, _ => rw [aw_up_ne _ _ (by omega), aw_up_ne _ _ (by omega), aw_up_self]; rfl
            | 1, _ => rw [aw_up_ne _ _ (by omega), aw_up_self]; rfl
            | 2, _ => rw [aw_up_self]; rfl
        have hEx : rx_E (nx_I I x y v) (nx_I (aw_up (aw_up (aw_up (aw_z I (aw_nx Ω) 0) (aw_nx Ω) 0 x) (aw_nx Ω) 1 y) (aw_nx Ω) 2 v) x y v) := by
            refine ⟨?_, ?_, ?_⟩ <;> unfold nx_I
            · funext k; unfold aw_wr; rw [hI3 66 (by omega)]
            · funext k; unfold aw_wr; rw [hI3 67 (by omega)]
            · rw [aw_wr_off _ _ (by decide), aw_wr_off _ _ (by decide), aw_wr_off _ _ (by decide), aw_wr_off _ _ (by decide), hI3 68 (by omega)]
        have hTx : nx_I (aw_up (aw_up (aw_up (aw_z I (aw_nx Ω) 0) (aw_nx Ω) 0 x) (aw_nx Ω) 1 y) (aw_nx Ω) 2 v) x y v 65 3 = nx_I I x y v 65 3 := by unfold nx_I; rw [aw_wr_off _ _ (by decide), aw_wr_off _ _ (by decide), aw_wr_off _ _ (by decide), aw_wr_off _ _ (by decide), hI3 65 (by omega)]
        refine aw_dup dX8_nearest_35 rfl ?_
        refine aw_iconst (v := nI 0) dX8_nearest_36 (by decide) ?_
        refine aw_iload_n dX8_nearest_37 rfl ?_
        refine aw_pc (pc2 := 38) rfl ?_
        refine aw_iast dX8_nearest_38 hA2 rfl (by omega) rfl ?_
        refine aw_dup dX8_nearest_39 rfl ?_
        refine aw_iconst (v := nI 1) dX8_nearest_40 (by decide) ?_
        refine aw_iload_n dX8_nearest_41 rfl ?_
        refine aw_iast dX8_nearest_42 hA2 rfl (by omega) rfl ?_
        refine aw_dup dX8_nearest_43 rfl ?_
        refine aw_pc (pc2 := 44) rfl ?_
        refine aw_iconst (v := nI 2) dX8_nearest_44 (by decide) ?_
        refine aw_iload_n dX8_nearest_45 rfl ?_
        refine aw_iast dX8_nearest_46 hA2 rfl (by omega) rfl ?_
        refine aw_astore dX8_nearest_47 (by decide) ?_
        refine aw_lv (lv2 := [.ref _, .int _, .int _, .int _, .int _, .int _, .ref _]) rfl ?_
        refine aw_aload_n dX8_nearest_49 rfl ?_
        refine aw_aload dX8_nearest_50 rfl ?_
        refine aw_pc (pc2 := 52) rfl ?_
        refine aw_cvI (As := [_]) (d' := d - 1) dX8_nearest_52 lkX8_247 hM2.o (by omega) rfl rfl (Nat.le_of_ble_eq_true rfl) (by decide) (tX8_isNear hM2 hA2 hnx hn2 hn3 hm2 hm6 hp2 (by omega) ?_ ?_)
        · skip
          intro I1 J1 a1 b1 f1
          rw [rx_res_c hEx hTx] at f1
          have fI1 : ∀ a k, a < aw_nx Ω → ¬ (a = 65 ∧ k = 13) → ¬ (a = 77 ∨ a = 80) → I1 a k = I a k := fun a k h0 h1 h2 => by rw [a1 a k h1 h2, hI3 a h0]
          have fJ1 : ∀ a k, a < aw_nx Ω → ¬ (a = 71 ∨ a = 72 ∨ a = 73 ∨ a = 74 ∨ a = 75 ∨ a = 76 ∨ a = 78) → ¬ (a = 65 ∧ (k = 18 ∨ k = 29)) → J1 a k = J a k := fun a k h0 h1 h2 => by rw [b1 a k h1 h2, hJ3 a h0]
          refine aw_if_eq (t := 77) dX8_nearest_55 (by decide) (fun h5 => ?_) (fun h5 => absurd h5 (by decide))
          refine aw_iconst (v := -1) dX8_nearest_77 (by decide) ?_
          refine aw_csL (As := [_]) (d' := d - 1) dX8_nearest_78 lkX8_200 (by omega) rfl rfl (Nat.le_of_ble_eq_true rfl) (by decide) (tX8_refused ?_)
          exact aw_lret dX8_nearest_81 rfl (kN i I1 J1 rfl hi (fun q8 => q8.elim hw9 (fun q9 => q9.elim h3 (fun q9 => h4 q9))) fI1 fJ1 f1) (by decide) (by decide)
        · skip
          intro w I1 J1 a1 b1 hw g1 f1 A1 wo1
          rw [rx_res_c hEx hTx] at f1
          rw [rx_find_c (S := 0) hEx, ht2] at g1
          rw [rx_At_c hEx, ht2] at A1
          have bne := rx_bne g1
          have fI1 : ∀ a k, a < aw_nx Ω → ¬ (a = 65 ∧ k = 13) → ¬ (a = 77 ∨ a = 80) → I1 a k = I a k := fun a k h0 h1 h2 => by rw [a1 a k h1 h2, hI3 a h0]
          have fJ1 : ∀ a k, a < aw_nx Ω → ¬ (a = 71 ∨ a = 72 ∨ a = 73 ∨ a = 74 ∨ a = 75 ∨ a = 76 ∨ a = 78) → ¬ (a = 65 ∧ (k = 18 ∨ k = 29)) → J1 a k = J a k := fun a k h0 h1 h2 => by rw [b1 a k h1 h2, hJ3 a h0]
          refine aw_if_eq (t := 77) dX8_nearest_55 (by decide) (fun h6 => absurd h6 (by decide)) (fun h6 => ?_)
          refine aw_aload_n dX8_nearest_58 rfl ?_
          refine aw_getR dX8_nearest_59 flX8_36 hM2.o hM2.p16 ?_
          refine aw_iload dX8_nearest_62 rfl ?_
          refine aw_laldv (v := rx_v (nx_I I x y v) n m w (I 65 3) i) dX8_nearest_64 hM2.s16 rfl (by omega) (A1.2.1 i hi) ?_
          refine aw_pc (pc2 := 65) rfl ?_
          refine aw_aload_n dX8_nearest_65 rfl ?_
          refine aw_getJ dX8_nearest_66 flX8_161 hM2.o ?_
          refine aw_toL A1.1 ?_
          refine aw_iload dX8_nearest_69 rfl ?_
          refine aw_csL (As := [_, _, _]) (d' := d - 1) dX8_nearest_71 lkX8_203 (by omega) rfl rfl (Nat.le_of_ble_eq_true rfl) (by decide) (tX8_low bne (by omega) ?_)
          refine aw_goto (t := 81) dX8_nearest_74 (by decide) ?_
          exact aw_lret dX8_nearest_81 rfl (hQ i w I1 J1 rfl hi (fun q8 => q8.elim hw9 (fun q9 => q9.elim h3 (fun q9 => h4 q9))) hw fI1 fJ1 g1 f1) (by decide) (by decide)
      · skip
        refine aw_bipush (v := -2) dX8_nearest_26 (by decide) ?_
        refine aw_csL (As := [_]) (d' := d - 1) dX8_nearest_28 lkX8_200 (by omega) rfl rfl (Nat.le_of_ble_eq_true rfl) (by decide) (tX8_refused ?_)
        exact aw_lret dX8_nearest_31 rfl (kB (Or.inr (Or.inr (h4)))) (by decide) (by decide)
theorem lX8_distance {G : aw_G} {d : Nat} {Ω : aw_O} {N0 q9 : Nat} {I : aw_MI} {J : aw_MJ} {Q : Int64 → aw_O → aw_MI → aw_MJ → Prop} {n m w : Nat} {x y v u : Int32} {I0 : aw_MI} (hM : aw_model Ω 65) (hA : aw_is Ω q9 (.inr (0, 3))) (hn : I 65 0 = nI n) (hn3 : n ≤ 3) (hp : ∀ i, i < 3 → I q9 i = nx_p x y v i) (A1 : rx_At (nx_I I0 x y v) n m w (I0 65 3) J) (wo1 : J 65 29 = rx_wo (nx_I I0 x y v) n m w (I0 65 3)) (bne : ¬ rx_b (nx_I I0 x y v) n m w = 0) (hd : 8 ≤ d) (hQ : Q (lw_v (rx_wo (nx_I I0 x y v) n m w (I0 65 3) + sp_sq (nx_p x y v) n * rx_b (nx_I I0 x y v) n m w) (rx_b (nx_I I0 x y v) n m w) u) Ω I J) : ∀ (z i : Nat), i ≤ n → n - i < z → AW G MX8_distance N0 d 1 3 (aw_QL Q) Ω I J 1 3 [.ref (aw_ad G 65), .int x, .int y, .int v, .int u, .ref (aw_ad G q9), .long (sp_sq (nx_p x y v) i), .null, .int (nI i)] 60 [] := by
  intro z
  induction z with
  | zero =>
    intro i h0 hz
    exact absurd hz (by omega)
  | succ z ih =>
    intro i h0 hz
    refine aw_iload dX8_distance_60 rfl ?_
    refine aw_aload_n dX8_distance_62 rfl ?_
    refine aw_getIv (v := nI n) dX8_distance_63 flX8_7 hM.o hn ?_
    refine aw_geN (t := 92) dX8_distance_66 (by decide) (by omega) (by omega) (fun h1 => ?_) (fun h1 => ?_)
    · skip
      refine aw_aload_n dX8_distance_92 rfl ?_
      refine aw_getJ dX8_distance_93 flX8_240 hM.o ?_
      refine aw_toL wo1 ?_
      refine aw_lload dX8_distance_96 rfl ?_
      refine aw_aload_n dX8_distance_98 rfl ?_
      refine aw_getJ dX8_distance_99 flX8_161 hM.o ?_
      refine aw_toL A1.1 ?_
      refine aw_pc (pc2 := 102) rfl ?_
      refine aw_lmul dX8_distance_102 ?_
      refine aw_ladd dX8_distance_103 ?_
      refine aw_aload_n dX8_distance_104 rfl ?_
      refine aw_getJ dX8_distance_105 flX8_161 hM.o ?_
      refine aw_toL A1.1 ?_
      refine aw_iload dX8_distance_108 rfl ?_
      refine aw_csL (As := [_, _, _]) (d' := d - 1) dX8_distance_110 lkX8_203 (by omega) rfl rfl (Nat.le_of_ble_eq_true rfl) (by decide) (tX8_low bne (by omega) ?_)
      refine aw_pc (pc2 := 113) rfl ?_
      exact aw_lret dX8_distance_113 rfl ((by rw [show i = n from by omega]; exact hQ)) (by decide) (by decide)
    · skip
      refine aw_lload dX8_distance_69 rfl ?_
      refine aw_aload dX8_distance_71 rfl ?_
      refine aw_iload dX8_distance_73 rfl ?_
      refine aw_ialdv (v := nx_p x y v i) dX8_distance_75 hA rfl (by omega) (hp i (by omega)) ?_
      refine aw_aload dX8_distance_76 rfl ?_
      refine aw_pc (pc2 := 78) rfl ?_
      refine aw_iload dX8_distance_78 rfl ?_
      refine aw_ialdv (v := nx_p x y v i) dX8_distance_80 hA rfl (by omega) (hp i (by omega)) ?_
      refine aw_imul dX8_distance_81 ?_
      refine aw_i2l dX8_distance_82 ?_
      refine aw_ladd dX8_distance_83 ?_
      refine aw_lstore dX8_distance_84 (by decide) ?_
      refine aw_lv (lv2 := [.ref _, .int _, .int _, .int _, .int _, .ref _, .long _, .null, .int _]) rfl ?_
      refine aw_pc (pc2 := 86) rfl ?_
      refine aw_iincN dX8_distance_86 rfl (by decide) ?_
      refine aw_lv (lv2 := [.ref _, .int _, .int _, .int _, .int _, .ref _, .long _, .null, .int _]) rfl ?_
      refine aw_goto (t := 60) dX8_distance_89 (by decide) ?_
      exact ih (i + 1) (by omega) (by omega)
theorem tX8_distance {G : aw_G} {d : Nat} {Ω : aw_O} {I : aw_MI} {J : aw_MJ} {Q : Int64 → aw_O → aw_MI → aw_MJ → Prop} {n m : Nat} (hM : aw_model Ω 65) (hn : I 65 0 = nI n) (hn3 : n ≤ 3) (hm : I 65 4 = nI m) (hm6 : m ≤ 6) {x y v u : Int32} (hnx : 84 ≤ aw_nx Ω) (hd : 9 ≤ d) (kB : (sp_wi x (nI 99) = 0 ∨ sp_wi y (nI 99) = 0 ∨ sp_wi v (nI 99) = 0) ∨ sp_part u = 0 → Q (-4611686018427387904 + (-2 : Int32).toInt64) Ω I J) (kN : ∀ I' J', ¬ ((sp_wi x (nI 99) = 0 ∨ sp_wi y (nI 99) = 0 ∨ sp_wi v (nI 99) = 0) ∨ sp_part u = 0) → ng_I (aw_nx Ω) I I' → ng_J (aw_nx Ω) J J' → rx_res (nx_I I x y v) n m (2 ^ m - 1) = -1 → Q (-4611686018427387904 + (-1 : Int32).toInt64) (aw_ext Ω (.inr (0, 3)) (fun _ => none)) I' J') (hQ : ∀ w I' J', ¬ ((sp_wi x (nI 99) = 0 ∨ sp_wi y (nI 99) = 0 ∨ sp_wi v (nI 99) = 0) ∨ sp_part u = 0) → w < 2 ^ m → ng_I (aw_nx Ω) I I' → ng_J (aw_nx Ω) J J' → rx_gb (nx_I I x y v) n m (nI (2 ^ m - 1)) (I 65 3) w = true → rx_res (nx_I I x y v) n m (2 ^ m - 1) = nI w → Q (lw_v (rx_wo (nx_I I x y v) n m w (I 65 3) + sp_sq (nx_p x y v) n * rx_b (nx_I I x y v) n m w) (rx_b (nx_I I x y v) n m w) u) (aw_ext Ω (.inr (0, 3)) (fun _ => none)) I' J') : aw_Call G MX8_distance d 1 3 [.ref (aw_ad G 65), .int x, .int y, .int v, .int u] Ω I J (aw_QL Q) := by
  refine aw_enter (by decide +kernel) rfl (Nat.le_of_ble_eq_true rfl) ?_
  show AW G MX8_distance (aw_nx Ω) d 1 3 (aw_QL Q) Ω I J 0 0 [.ref (aw_ad G 65), .int x, .int y, .int v, .int u, .null, .null, .null, .null] 0 []
  refine aw_iload_n dX8_distance_0 rfl ?_
  refine aw_iload_n dX8_distance_1 rfl ?_
  refine aw_iload_n dX8_distance_2 rfl ?_
  refine aw_csI (As := [_, _, _]) (d' := d - 1) dX8_distance_3 lkX8_243 (by omega) rfl rfl (Nat.le_of_ble_eq_true rfl) (by decide) (tX8_isPlace (by omega) ?_ ?_)
  · skip
    intro hw9
    refine aw_if_eq (t := 17) dX8_distance_6 (by decide) (fun h1 => ?_) (fun h1 => absurd h1 (by decide))
    refine aw_bipush (v := -2) dX8_distance_17 (by decide) ?_
    refine aw_csL (As := [_]) (d' := d - 1) dX8_distance_19 lkX8_200 (by omega) rfl rfl (Nat.le_of_ble_eq_true rfl) (by decide) (tX8_refused ?_)
    exact aw_lret dX8_distance_22 rfl (kB (Or.inl hw9)) (by decide) (by decide)
  · skip
    intro hw9
    refine aw_if_eq (t := 17) dX8_distance_6 (by decide) (fun h2 => absurd h2 (by decide)) (fun h2 => ?_)
    refine aw_iload dX8_distance_9 rfl ?_
    refine aw_csI (As := [_]) (d' := d - 1) dX8_distance_11 lkX8_193 (by omega) rfl rfl (Nat.le_of_ble_eq_true rfl) (by decide) (tX8_isPart ?_)
    refine aw_if_ne (t := 23) dX8_distance_14 (by decide) (fun h3 => ?_) (fun h3 => ?_)
    · skip
      refine aw_iconst (v := nI 3) dX8_distance_23 (by decide) ?_
      refine aw_newaI (N := 3) dX8_distance_24 (by decide) (by decide) (by decide) ?_
      have hM2 : aw_model (aw_ext Ω (.inr (0, 3)) (fun _ => none)) 65 := hM.ext
      have hA2 : aw_is (aw_ext Ω (.inr (0, 3)) (fun _ => none)) (aw_nx Ω) (.inr (0, 3)) := aw_ext_new _ _ _
      have hI3 : ∀ a, a < aw_nx Ω → (aw_up (aw_up (aw_up (aw_z I (aw_nx Ω) 0) (aw_nx Ω) 0 x) (aw_nx Ω) 1 y) (aw_nx Ω) 2 v) a = I a := fun a ha => by rw [aw_up_off _ _ (by omega), aw_up_off _ _ (by omega), aw_up_off _ _ (by omega), aw_z_off _ _ (by omega)]
      have hJ3 : ∀ a, a < aw_nx Ω → (aw_z J (aw_nx Ω) 0) a = J a := fun a ha => aw_z_off _ _ (by omega)
      have hn2 : (aw_up (aw_up (aw_up (aw_z I (aw_nx Ω) 0) (aw_nx Ω) 0 x) (aw_nx Ω) 1 y) (aw_nx Ω) 2 v) 65 0 = nI n := by rw [hI3 65 (by omega)]; exact hn
      have hm2 : (aw_up (aw_up (aw_up (aw_z I (aw_nx Ω) 0) (aw_nx Ω) 0 x) (aw_nx Ω) 1 y) (aw_nx Ω) 2 v) 65 4 = nI m := by rw [hI3 65 (by omega)]; exact hm
      have ht2 : (aw_up (aw_up (aw_up (aw_z I (aw_nx Ω) 0) (aw_nx Ω) 0 x) (aw_nx Ω) 1 y) (aw_nx Ω) 2 v) 65 3 = I 65 3 := by rw [hI3 65 (by omega)]
      have hp2 : ∀ i, i < 3 → (aw_up (aw_up (aw_up (aw_z I (aw_nx Ω) 0) (aw_nx Ω) 0 x) (aw_nx Ω) 1 y) (aw_nx Ω) 2 v) (aw_nx Ω) i = nx_p x y v i := fun i hi => by
          match i, hi with
          | 0, _ => rw [aw_up_ne _ _ (by omega), aw_up_ne _ _ (by omega), aw_up_self]; rfl
          | 1, _ => rw [aw_up_ne _ _ (by omega), aw_up_self]; rfl
          | 2, _ => rw [aw_up_self]; rfl
      have hEx : rx_E (nx_I I x y v) (nx_I (aw_up (aw_up (aw_up (aw_z I (aw_nx Ω) 0) (aw_nx Ω) 0 x) (aw_nx Ω) 1 y) (aw_nx Ω) 2 v) x y v) := by
          refine ⟨?_, ?_, ?_⟩ <;> unfold nx_I
          · funext k; unfold aw_wr; rw [hI3 66 (by omega)]
          · funext k; unfold aw_wr; rw [hI3 67 (by omega)]
          · rw [aw_wr_off _ _ (by decide), aw_wr_off _ _ (by decide), aw_wr_off _ _ (by decide), aw_wr_off _ _ (by decide), hI3 68 (by omega)]
      have hTx : nx_I (aw_up (aw_up (aw_up (aw_z I (aw_nx Ω) 0) (aw_nx Ω) 0 x) (aw_nx Ω) 1 y) (aw_nx Ω) 2 v) x y v 65 3 = nx_I I x y v 65 3 := by unfold nx_I; rw [aw_wr_off _ _ (by decide), aw_wr_off _ _ (by decide), aw_wr_off _ _ (by decide), aw_wr_off _ _ (by decide), hI3 65 (by omega)]
      refine aw_dup dX8_distance_26 rfl ?_
      refine aw_iconst (v := nI 0) dX8_distance_27 (by decide) ?_
      refine aw_iload_n dX8_distance_28 rfl ?_
      refine aw_pc (pc2 := 29) rfl ?_
      refine aw_iast dX8_distance_29 hA2 rfl (by omega) rfl ?_
      refine aw_dup dX8_distance_30 rfl ?_
      refine aw_iconst (v := nI 1) dX8_distance_31 (by decide) ?_
      refine aw_iload_n dX8_distance_32 rfl ?_
      refine aw_iast dX8_distance_33 hA2 rfl (by omega) rfl ?_
      refine aw_dup dX8_distance_34 rfl ?_
      refine aw_pc (pc2 := 35) rfl ?_
      refine aw_iconst (v := nI 2) dX8_distance_35 (by decide) ?_
      refine aw_iload_n dX8_distance_36 rfl ?_
      refine aw_iast dX8_distance_37 hA2 rfl (by omega) rfl ?_
      refine aw_astore dX8_distance_38 (by decide) ?_
      refine aw_lv (lv2 := [.ref _, .int _, .int _, .int _, .int _, .ref _, .null, .null, .null]) rfl ?_
      refine aw_aload_n dX8_distance_40 rfl ?_
      refine aw_aload dX8_distance_41 rfl ?_
      refine aw_pc (pc2 := 43) rfl ?_
      refine aw_cvI (As := [_]) (d' := d - 1) dX8_distance_43 lkX8_247 hM2.o (by omega) rfl rfl (Nat.le_of_ble_eq_true rfl) (by decide) (tX8_isNear hM2 hA2 hnx hn2 hn3 hm2 hm6 hp2 (by omega) ?_ ?_)
      · skip
        intro I1 J1 a1 b1 f1
        rw [rx_res_c hEx hTx] at f1
        have fI1 : ∀ a k, a < aw_nx Ω → ¬ (a = 65 ∧ k = 13) → ¬ (a = 77 ∨ a = 80) → I1 a k = I a k := fun a k h0 h1 h2 => by rw [a1 a k h1 h2, hI3 a h0]
        have fJ1 : ∀ a k, a < aw_nx Ω → ¬ (a = 71 ∨ a = 72 ∨ a = 73 ∨ a = 74 ∨ a = 75 ∨ a = 76 ∨ a = 78) → ¬ (a = 65 ∧ (k = 18 ∨ k = 29)) → J1 a k = J a k := fun a k h0 h1 h2 => by rw [b1 a k h1 h2, hJ3 a h0]
        refine aw_if_ne (t := 54) dX8_distance_46 (by decide) (fun h4 => absurd h4 (by decide)) (fun h4 => ?_)
        refine aw_iconst (v := -1) dX8_distance_49 (by decide) ?_
        refine aw_csL (As := [_]) (d' := d - 1) dX8_distance_50 lkX8_200 (by omega) rfl rfl (Nat.le_of_ble_eq_true rfl) (by decide) (tX8_refused ?_)
        exact aw_lret dX8_distance_53 rfl (kN  I1 J1 (fun q8 => q8.elim hw9 (fun q9 => h3 q9)) fI1 fJ1 f1) (by decide) (by decide)
      · skip
        intro w I1 J1 a1 b1 hw g1 f1 A1 wo1
        rw [rx_res_c hEx hTx] at f1
        rw [rx_find_c (S := 0) hEx, ht2] at g1
        rw [rx_At_c hEx, ht2] at A1
        have bne := rx_bne g1
        have fI1 : ∀ a k, a < aw_nx Ω → ¬ (a = 65 ∧ k = 13) → ¬ (a = 77 ∨ a = 80) → I1 a k = I a k := fun a k h0 h1 h2 => by rw [a1 a k h1 h2, hI3 a h0]
        have fJ1 : ∀ a k, a < aw_nx Ω → ¬ (a = 71 ∨ a = 72 ∨ a = 73 ∨ a = 74 ∨ a = 75 ∨ a = 76 ∨ a = 78) → ¬ (a = 65 ∧ (k = 18 ∨ k = 29)) → J1 a k = J a k := fun a k h0 h1 h2 => by rw [b1 a k h1 h2, hJ3 a h0]
        refine aw_if_ne (t := 54) dX8_distance_46 (by decide) (fun h5 => ?_) (fun h5 => absurd h5 (by decide))
        refine aw_lconst (v := 0) dX8_distance_54 (by decide) ?_
        refine aw_lstore dX8_distance_55 (by decide) ?_
        refine aw_lv (lv2 := [.ref _, .int _, .int _, .int _, .int _, .ref _, .long _, .null, .null]) rfl ?_
        refine aw_iconst (v := nI 0) dX8_distance_57 (by decide) ?_
        refine aw_istore dX8_distance_58 (by decide) ?_
        refine aw_lv (lv2 := [.ref _, .int _, .int _, .int _, .int _, .ref _, .long _, .null, .int _]) rfl ?_
        have hp1 : ∀ i, i < 3 → I1 (aw_nx Ω) i = nx_p x y v i := fun i hi => by rw [a1 (aw_nx Ω) i (by omega) (by omega)]; exact hp2 i hi
        have hn1 : I1 65 0 = nI n := by rw [a1 65 0 (by decide) (by decide)]; exact hn2
        rw [show rx_wo (nx_I (aw_up (aw_up (aw_up (aw_z I (aw_nx Ω) 0) (aw_nx Ω) 0 x) (aw_nx Ω) 1 y) (aw_nx Ω) 2 v) x y v) n m w ((aw_up (aw_up (aw_up (aw_z I (aw_nx Ω) 0) (aw_nx Ω) 0 x) (aw_nx Ω) 1 y) (aw_nx Ω) 2 v) 65 3) = rx_wo (nx_I I x y v) n m w (I 65 3) from by unfold rx_wo; rw [ht2, rx_v_c hEx, rx_y_c hEx, hEx.2.1]; exact sp_w2_c (fun l _ => rp_bd_c hEx.2.2) (fun _ _ => rfl)] at wo1
        exact lX8_distance (I0 := I) hM2 hA2 hn1 hn3 hp1 A1 wo1 bne (by omega) (hQ w I1 J1 (fun q8 => q8.elim hw9 h3) hw fI1 fJ1 g1 f1) (n + 1) 0 (by omega) (by omega)
    · skip
      refine aw_bipush (v := -2) dX8_distance_17 (by decide) ?_
      refine aw_csL (As := [_]) (d' := d - 1) dX8_distance_19 lkX8_200 (by omega) rfl rfl (Nat.le_of_ble_eq_true rfl) (by decide) (tX8_refused ?_)
      exact aw_lret dX8_distance_22 rfl (kB (Or.inr (h3))) (by decide) (by decide)

theorem lX8_findsRise {G : aw_G} {d : Nat} {Ω : aw_O} {I : aw_MI} {Q : aw_O → aw_MI → aw_MJ → Prop} {n k S : Nat} {mb : Nat → Nat} {x : Int32} {J0 : aw_MJ} (hM : aw_model Ω 65) (hn : I 65 0 = nI n) (hn3 : n ≤ 3) (hk : k ≤ n) (hw : I 65 13 = nI (n + k)) (hmb : ∀ j, j < k → I 77 j = nI (mb j) ∧ mb j < 6) (hc : ∀ r c, r < n + k → c < n + k → J0 71 (6 * r + c) = Int64.ofInt (rm_c I n mb c r)) (hd : 4 ≤ d) (hQ : ∀ J', (∀ i, i < n → J' 75 i = te_f (rm_c I n mb) (rm_u I n mb) (n + k) x i) → (∀ l, l < 6 → J' 76 l = sp_wt mb (fun j => te_f (rm_c I n mb) (rm_u I n mb) (n + k) x (n + j)) k l) → (∀ a, a ≠ 71 → a ≠ 72 → a ≠ 78 → a ≠ 75 → a ≠ 76 → J' a = J0 a) → Q Ω I J') : ∀ (z i : Nat) (J : aw_MJ), i ≤ n + k → n + k - i < z → rl_P (rm_u I n mb) J0 J i → AW G MX8_findsRise (aw_nx Ω) d 0 0 (aw_QV Q) Ω I J 0 0 [.ref (aw_ad G 65), .int (nI S), .int (nI k), .int x, .int (nI i)] 29 [] := by
  intro z
  induction z with
  | zero =>
    intro i J h0 hz hP
    exact absurd hz (by omega)
  | succ z ih =>
    intro i J h0 hz hP
    refine aw_iload dX8_findsRise_29 rfl ?_
    refine aw_aload_n dX8_findsRise_31 rfl ?_
    refine aw_getIv (v := nI (n + k)) dX8_findsRise_32 flX8_132 hM.o hw ?_
    refine aw_geN (t := 81) dX8_findsRise_35 (by decide) (by omega) (by omega) (fun h1 => ?_) (fun h1 => ?_)
    · skip
      refine aw_aload_n dX8_findsRise_81 rfl ?_
      refine aw_aload_n dX8_findsRise_82 rfl ?_
      refine aw_getR dX8_findsRise_83 flX8_42 hM.o hM.p19 ?_
      refine aw_aload_n dX8_findsRise_86 rfl ?_
      refine aw_getR dX8_findsRise_87 flX8_45 hM.o hM.p20 ?_
      refine aw_pc (pc2 := 90) rfl ?_
      refine aw_iload_n dX8_findsRise_90 rfl ?_
      refine aw_iload_n dX8_findsRise_91 rfl ?_
      refine aw_cvV (As := [_, _, _, _]) (d' := d - 1) dX8_findsRise_92 lkX8_165 hM.o (by omega) rfl rfl (Nat.le_of_ble_eq_true rfl) ⟨Nat.le_refl _, Nat.le_refl _⟩ (tX8_tells (p := 75) (C := rm_c I n mb) (b := (rm_u I n mb)) (mb := mb) hM hM.s19 hM.s20 (by decide) hn hn3 hk hw hmb (by omega) ⟨fun r c h1 h2 => by rw [hP.2 71 (by decide)]; exact hc r c h1 h2, fun r h1 => hP.1 r (by omega)⟩ ?_)
      · skip
        intro J2 x2 y2 f2
        have f3 : ∀ a, a ≠ 71 → a ≠ 72 → a ≠ 78 → a ≠ 75 → a ≠ 76 → J2 a = J0 a := fun a b1 b2 b3 b4 b5 => by rw [f2 a b1 b2 b3 b4 b5, hP.2 a b3]
        exact aw_vret dX8_findsRise_95 rfl (hQ J2 x2 y2 f3) (Nat.zero_le _) (Nat.zero_le _)
    · skip
      refine aw_aload_n dX8_findsRise_38 rfl ?_
      refine aw_getR dX8_findsRise_39 flX8_51 hM.o hM.p22 ?_
      refine aw_iload dX8_findsRise_42 rfl ?_
      refine aw_iload dX8_findsRise_44 rfl ?_
      refine aw_aload_n dX8_findsRise_46 rfl ?_
      refine aw_pc (pc2 := 47) rfl ?_
      refine aw_getIv (v := nI n) dX8_findsRise_47 flX8_7 hM.o hn ?_
      refine aw_geN (t := 57) dX8_findsRise_50 (by decide) (by omega) (by omega) (fun h2 => ?_) (fun h2 => ?_)
      · skip
        refine aw_aload_n dX8_findsRise_57 rfl ?_
        refine aw_aload_n dX8_findsRise_58 rfl ?_
        refine aw_getR dX8_findsRise_59 flX8_48 hM.o hM.p21 ?_
        refine aw_iload dX8_findsRise_62 rfl ?_
        refine aw_aload_n dX8_findsRise_64 rfl ?_
        refine aw_pc (pc2 := 65) rfl ?_
        refine aw_getIv (v := nI n) dX8_findsRise_65 flX8_7 hM.o hn ?_
        refine aw_isubN dX8_findsRise_68 (by omega) ?_
        refine aw_ialdv (v := nI (mb (i - n))) dX8_findsRise_69 hM.s21 rfl (by omega) (hmb (i - n) (by omega)).1 ?_
        refine aw_cvI (As := [_]) (d' := d - 1) dX8_findsRise_70 lkX8_169 hM.o (by omega) rfl rfl (Nat.le_of_ble_eq_true rfl) ⟨Nat.le_refl _, Nat.le_refl _⟩ (tX8_rise hM (hmb _ (by omega)).2 ?_)
        refine aw_i2l dX8_findsRise_73 ?_
        refine aw_last dX8_findsRise_74 hM.s22 rfl (by omega) rfl ?_
        refine aw_pc (pc2 := 75) rfl ?_
        refine aw_iincN dX8_findsRise_75 rfl (by decide) ?_
        refine aw_lv (lv2 := [.ref _, .int _, .int _, .int _, .int _]) rfl ?_
        refine aw_goto (t := 29) dX8_findsRise_78 (by decide) ?_
        exact ih (i + 1) _ (by omega) (by omega) (rl_s hP (by unfold rm_u; rw [if_neg (by omega)]; rfl))
      · skip
        refine aw_lconst (v := 0) dX8_findsRise_53 (by decide) ?_
        refine aw_goto (t := 74) dX8_findsRise_54 (by decide) ?_
        refine aw_last dX8_findsRise_74 hM.s22 rfl (by omega) rfl ?_
        refine aw_iincN dX8_findsRise_75 rfl (by decide) ?_
        refine aw_lv (lv2 := [.ref _, .int _, .int _, .int _, .int _]) rfl ?_
        refine aw_goto (t := 29) dX8_findsRise_78 (by decide) ?_
        exact ih (i + 1) _ (by omega) (by omega) (rl_s hP (by unfold rm_u; rw [if_pos (by omega)]; rfl))
theorem tX8_findsRise {G : aw_G} {d : Nat} {Ω : aw_O} {I : aw_MI} {J : aw_MJ} {Q : aw_O → aw_MI → aw_MJ → Prop} {n m S : Nat} (hM : aw_model Ω 65) (hn : I 65 0 = nI n) (hn3 : n ≤ 3) (hm : I 65 4 = nI m) (hm6 : m ≤ 6) (hS : S < 2 ^ m) (hd : 4 ≤ d) (hk : cx_n S m ≤ n) (hQ : ∀ I' J', mr_I I I' → (∀ a, a ≠ 71 → a ≠ 72 → a ≠ 78 → a ≠ 75 → a ≠ 76 → J' a = J a) → (∀ i, i < n → J' 75 i = rx_u I n m S i) → (∀ l, l < 6 → J' 76 l = rx_z I n m S l) → Q Ω I' J') : aw_Call G MX8_findsRise d 0 0 [.ref (aw_ad G 65), .int (nI S)] Ω I J (aw_QV Q) := by
  refine aw_enter (by decide +kernel) rfl (Nat.le_of_ble_eq_true rfl) ?_
  show AW G MX8_findsRise (aw_nx Ω) d 0 0 (aw_QV Q) Ω I J 0 0 [.ref (aw_ad G 65), .int (nI S), .null, .null, .null] 0 []
  refine aw_aload_n dX8_findsRise_0 rfl ?_
  refine aw_iload_n dX8_findsRise_1 rfl ?_
  refine aw_cvI (As := [_]) (d' := d - 1) dX8_findsRise_2 lkX8_154 hM.o (by omega) rfl rfl (Nat.le_of_ble_eq_true rfl) ⟨Nat.le_refl _, Nat.le_refl _⟩ (tX8_laysSome hM hm hm6 hS (by omega) ?_)
  · skip
    intro I1 a1 a2
    have m1 : mr_I I I1 := fun a k _ h2 => by rw [a1 a h2]
    have hn1 : I1 65 0 = nI n := by rw [a1 65 (by decide)]; exact hn
    have hk6 := Nat.le_trans (mb_le (nI S) m) hm6
    have hk6 : cx_n S m ≤ 6 := hk6
    have hmb : ∀ j, j < cx_n S m → I1 77 j = nI (cx_mb S m j) ∧ cx_mb S m j < 6 := fun j hj => ⟨a2 j hj, cx_mb_lt hm6 hj⟩
    have hE : rx_E I I1 := m1.E
    refine aw_istore_n dX8_findsRise_5 (by decide) ?_
    refine aw_lv (lv2 := [.ref _, .int _, .int _, .null, .null]) rfl ?_
    refine aw_aload_n dX8_findsRise_6 rfl ?_
    refine aw_iload_n dX8_findsRise_7 rfl ?_
    refine aw_cvV (As := [_]) (d' := d - 1) dX8_findsRise_8 lkX8_157 hM.o (by omega) rfl rfl (Nat.le_of_ble_eq_true rfl) ⟨Nat.le_refl _, Nat.le_refl _⟩ (tX8_laysCells (mb := cx_mb S m) hM hn1 hn3 (by omega) hmb (by omega) ?_)
    · skip
      intro J1 b1 b2
      have m2 : mr_I I (aw_up I1 65 13 (nI (n + cx_n S m))) := m1.tr mr_r
      have hE2 : rx_E I (aw_up I1 65 13 (nI (n + cx_n S m))) := m2.E
      have hn2 : (aw_up I1 65 13 (nI (n + cx_n S m))) 65 0 = nI n := by rw [aw_up_ne I1 _ (by decide)]; exact hn1
      have hw2 : (aw_up I1 65 13 (nI (n + cx_n S m))) 65 13 = nI (n + cx_n S m) := aw_up_self _ _ _ _
      have hmb2 : ∀ j, j < cx_n S m → (aw_up I1 65 13 (nI (n + cx_n S m))) 77 j = nI (cx_mb S m j) ∧ cx_mb S m j < 6 := fun j hj => by rw [aw_up_off I1 _ (by decide)]; exact hmb j hj
      have ht2 : (aw_up I1 65 13 (nI (n + cx_n S m))) 65 3 = I 65 3 := m2 65 3 (by decide) (by decide)
      have hC2 : rm_c (aw_up I1 65 13 (nI (n + cx_n S m))) n (cx_mb S m) = rm_c I n (cx_mb S m) := rm_c_c hE2.2.2 hE2.1
      rw [rm_c_c hE.2.2 hE.1] at b2
      refine aw_aload_n dX8_findsRise_11 rfl ?_
      refine aw_cvL (As := []) (d' := d - 1) dX8_findsRise_12 lkX8_139 hM.o (by omega) rfl rfl (Nat.le_of_ble_eq_true rfl) ⟨Nat.le_refl _, Nat.le_refl _⟩ (tX8_determinant (w := n + cx_n S m) (pt := dp_pt (rm_c I n (cx_mb S m)) (n + cx_n S m)) hM hw2 (by omega) (by omega) b2 (dp_dt (by omega) (fun r c _ _ => rfl)) ?_)
      · skip
        intro J2 r2
        refine aw_toL (y := rx_d I n m S) (dp_full (by omega)) ?_
        have j2 : mr_J J J2 := fun a k h1 h2 => by rw [r2 a (by omega), b1 a (by omega)]
        refine aw_lconst (v := 0) dX8_findsRise_15 (by decide) ?_
        refine aw_lcmp dX8_findsRise_16 ?_
        refine aw_if_ge (t := 24) dX8_findsRise_17 (by decide) (fun h1 => ?_) (fun h1 => ?_)
        · skip
          refine aw_iconst (v := nI 0) dX8_findsRise_24 (by decide) ?_
          refine aw_istore_n dX8_findsRise_25 (by decide) ?_
          refine aw_lv (lv2 := [.ref _, .int _, .int _, .int _, .null]) rfl ?_
          refine aw_iconst (v := nI 0) dX8_findsRise_26 (by decide) ?_
          refine aw_istore dX8_findsRise_27 (by decide) ?_
          refine aw_lv (lv2 := [.ref _, .int _, .int _, .int _, .int _]) rfl ?_
          try simp only [lcmpE, lcmpL, lcmpG, lcmpLE, lcmpGT, nrm_le, nrm_le64, Classical.not_not] at h1
          have hsg : rx_s I n m S = (nI 0) := if_neg h1
          refine lX8_findsRise (J0 := J2) (x := (nI 0)) (mb := cx_mb S m) hM hn2 hn3 (by omega) hw2 hmb2 (fun r c h1 h2 => by rw [r2 71 (by decide), hC2]; exact b2 r c h1 h2) hd (fun J3 x3 y3 f3 => ?_) (n + cx_n S m + 1) 0 _ (by omega) (by omega) ⟨fun r h1 => absurd h1 (by omega), fun _ _ => rfl⟩
          rw [rm_u_c hE2.2.2, hC2, ← hsg] at x3 y3
          exact hQ _ J3 m2 (fun a b3 b4 b5 b6 b7 => by rw [f3 a b3 b4 b5 b6 b7, r2 a b4, b1 a b3]) x3 y3
        · skip
          refine aw_iconst (v := nI 1) dX8_findsRise_20 (by decide) ?_
          refine aw_goto (t := 25) dX8_findsRise_21 (by decide) ?_
          refine aw_istore_n dX8_findsRise_25 (by decide) ?_
          refine aw_lv (lv2 := [.ref _, .int _, .int _, .int _, .null]) rfl ?_
          refine aw_iconst (v := nI 0) dX8_findsRise_26 (by decide) ?_
          refine aw_istore dX8_findsRise_27 (by decide) ?_
          refine aw_lv (lv2 := [.ref _, .int _, .int _, .int _, .int _]) rfl ?_
          try simp only [lcmpE, lcmpL, lcmpG, lcmpLE, lcmpGT, nrm_le, nrm_le64, Classical.not_not] at h1
          have hsg : rx_s I n m S = (nI 1) := if_pos h1
          refine lX8_findsRise (J0 := J2) (x := (nI 1)) (mb := cx_mb S m) hM hn2 hn3 (by omega) hw2 hmb2 (fun r c h1 h2 => by rw [r2 71 (by decide), hC2]; exact b2 r c h1 h2) hd (fun J3 x3 y3 f3 => ?_) (n + cx_n S m + 1) 0 _ (by omega) (by omega) ⟨fun r h1 => absurd h1 (by omega), fun _ _ => rfl⟩
          rw [rm_u_c hE2.2.2, hC2, ← hsg] at x3 y3
          exact hQ _ J3 m2 (fun a b3 b4 b5 b6 b7 => by rw [f3 a b3 b4 b5 b6 b7, r2 a b4, b1 a b3]) x3 y3
def rp_slk (I : aw_MI) (J : aw_MJ) (n l : Nat) : Int64 := sp_left (rp_bd I l (I 65 3)) (J 65 18) (fun i => rp_row I n l i) (J 73) n
theorem lX8_slackOf {G : aw_G} {d : Nat} {Ω : aw_O} {I : aw_MI} {J : aw_MJ} {Q : Int64 → aw_O → aw_MI → aw_MJ → Prop} {n l : Nat} (hM : aw_model Ω 65) (hn : I 65 0 = nI n) (hn3 : n ≤ 3) (hl : l < 6) (hd : 1 ≤ d) (hQ : Q (rp_slk I J n l) Ω I J) : ∀ (z i : Nat), i ≤ n → n - i < z → AW G MX8_slackOf (aw_nx Ω) d 0 0 (aw_QL Q) Ω I J 0 0 [.ref (aw_ad G 65), .int (nI l), .long (sp_left (rp_bd I l (I 65 3)) (J 65 18) (fun i => rp_row I n l i) (J 73) i), .null, .int (nI i)] 15 [] := by
  intro z
  induction z with
  | zero =>
    intro i h0 hz
    exact absurd hz (by omega)
  | succ z ih =>
    intro i h0 hz
    refine aw_iload dX8_slackOf_15 rfl ?_
    refine aw_aload_n dX8_slackOf_17 rfl ?_
    refine aw_getIv (v := nI n) dX8_slackOf_18 flX8_7 hM.o hn ?_
    refine aw_geN (t := 49) dX8_slackOf_21 (by decide) (by omega) (by omega) (fun h1 => ?_) (fun h1 => ?_)
    · skip
      refine aw_lload_n dX8_slackOf_49 rfl ?_
      exact aw_lret dX8_slackOf_50 rfl ((by rw [show i = n from by omega]; exact hQ)) (Nat.zero_le _) (Nat.zero_le _)
    · skip
      refine aw_lload_n dX8_slackOf_24 rfl ?_
      refine aw_aload_n dX8_slackOf_25 rfl ?_
      refine aw_iload_n dX8_slackOf_26 rfl ?_
      refine aw_iload dX8_slackOf_27 rfl ?_
      refine aw_cvI (As := [_, _]) (d' := d - 1) dX8_slackOf_29 lkX8_129 hM.o (by omega) rfl rfl (Nat.le_of_ble_eq_true rfl) ⟨Nat.le_refl _, Nat.le_refl _⟩ (tX8_row hM hn hn3 hl (by omega) ?_)
      refine aw_pc (pc2 := 32) rfl ?_
      refine aw_i2l dX8_slackOf_32 ?_
      refine aw_aload_n dX8_slackOf_33 rfl ?_
      refine aw_getR dX8_slackOf_34 flX8_36 hM.o hM.p16 ?_
      refine aw_iload dX8_slackOf_37 rfl ?_
      refine aw_lald dX8_slackOf_39 hM.s16 rfl (by omega) ?_
      refine aw_lmul dX8_slackOf_40 ?_
      refine aw_pc (pc2 := 41) rfl ?_
      refine aw_lsub dX8_slackOf_41 ?_
      refine aw_lstore_n dX8_slackOf_42 (by decide) ?_
      refine aw_lv (lv2 := [.ref _, .int _, .long _, .null, .int _]) rfl ?_
      refine aw_iincN dX8_slackOf_43 rfl (by decide) ?_
      refine aw_lv (lv2 := [.ref _, .int _, .long _, .null, .int _]) rfl ?_
      refine aw_goto (t := 15) dX8_slackOf_46 (by decide) ?_
      exact ih (i + 1) (by omega) (by omega)
theorem tX8_slackOf {G : aw_G} {d : Nat} {Ω : aw_O} {I : aw_MI} {J : aw_MJ} {Q : Int64 → aw_O → aw_MI → aw_MJ → Prop} {n l : Nat} (hM : aw_model Ω 65) (hn : I 65 0 = nI n) (hn3 : n ≤ 3) (hl : l < 6) (hd : 1 ≤ d) (hQ : Q (rp_slk I J n l) Ω I J) : aw_Call G MX8_slackOf d 0 0 [.ref (aw_ad G 65), .int (nI l)] Ω I J (aw_QL Q) := by
  refine aw_enter (by decide +kernel) rfl (Nat.le_of_ble_eq_true rfl) ?_
  show AW G MX8_slackOf (aw_nx Ω) d 0 0 (aw_QL Q) Ω I J 0 0 [.ref (aw_ad G 65), .int (nI l), .null, .null, .null] 0 []
  refine aw_aload_n dX8_slackOf_0 rfl ?_
  refine aw_iload_n dX8_slackOf_1 rfl ?_
  refine aw_cvI (As := [_]) (d' := d - 1) dX8_slackOf_2 lkX8_125 hM.o (by omega) rfl rfl (Nat.le_of_ble_eq_true rfl) ⟨Nat.le_refl _, Nat.le_refl _⟩ (tX8_bound hM hl ?_)
  refine aw_i2l dX8_slackOf_5 ?_
  refine aw_aload_n dX8_slackOf_6 rfl ?_
  refine aw_pc (pc2 := 7) rfl ?_
  refine aw_getJ dX8_slackOf_7 flX8_161 hM.o ?_
  refine aw_lmul dX8_slackOf_10 ?_
  refine aw_lstore_n dX8_slackOf_11 (by decide) ?_
  refine aw_lv (lv2 := [.ref _, .int _, .long _, .null, .null]) rfl ?_
  refine aw_iconst (v := nI 0) dX8_slackOf_12 (by decide) ?_
  refine aw_istore dX8_slackOf_13 (by decide) ?_
  refine aw_lv (lv2 := [.ref _, .int _, .long _, .null, .int _]) rfl ?_
  exact lX8_slackOf hM hn hn3 hl hd hQ (n + 1) 0 (by omega) (by omega)
theorem tX8_holds {G : aw_G} {d : Nat} {Ω : aw_O} {I : aw_MI} {J : aw_MJ} {Q : Int32 → aw_O → aw_MI → aw_MJ → Prop} {n l : Nat} (hM : aw_model Ω 65) (hn : I 65 0 = nI n) (hn3 : n ≤ 3) (hl : l < 6) (hd : 2 ≤ d) (hQ : Q (sp_held (I 68 (6 * l)) (rp_slk I J n l)) Ω I J) : aw_Call G MX8_holds d 0 0 [.ref (aw_ad G 65), .int (nI l)] Ω I J (aw_QI Q) := by
  refine aw_enter (by decide +kernel) rfl (Nat.le_of_ble_eq_true rfl) ?_
  show AW G MX8_holds (aw_nx Ω) d 0 0 (aw_QI Q) Ω I J 0 0 [.ref (aw_ad G 65), .int (nI l), .null, .null] 0 []
  refine aw_aload_n dX8_holds_0 rfl ?_
  refine aw_iload_n dX8_holds_1 rfl ?_
  refine aw_cvL (As := [_]) (d' := d - 1) dX8_holds_2 lkX8_172 hM.o (by omega) rfl rfl (Nat.le_of_ble_eq_true rfl) ⟨Nat.le_refl _, Nat.le_refl _⟩ (tX8_slackOf hM hn hn3 hl (by omega) ?_)
  refine aw_lstore_n dX8_holds_5 (by decide) ?_
  refine aw_lv (lv2 := [.ref _, .int _, .long _, .null]) rfl ?_
  refine aw_aload_n dX8_holds_6 rfl ?_
  refine aw_pc (pc2 := 7) rfl ?_
  refine aw_iload_n dX8_holds_7 rfl ?_
  refine aw_cvI (As := [_]) (d' := d - 1) dX8_holds_8 lkX8_175 hM.o (by omega) rfl rfl (Nat.le_of_ble_eq_true rfl) ⟨Nat.le_refl _, Nat.le_refl _⟩ (tX8_isOn hM (by omega) ?_)
  refine aw_if_eq (t := 28) dX8_holds_11 (by decide) (fun h1 => ?_) (fun h1 => ?_)
  · skip
    refine aw_lload_n dX8_holds_28 rfl ?_
    refine aw_lconst (v := 0) dX8_holds_29 (by decide) ?_
    refine aw_lcmp dX8_holds_30 ?_
    refine aw_if_lt (t := 38) dX8_holds_31 (by decide) (fun h2 => ?_) (fun h2 => ?_)
    · skip
      refine aw_iconst (v := nI 0) dX8_holds_38 (by decide) ?_
      try simp only [lcmpE, lcmpL, lcmpG, lcmpLE, lcmpGT, nrm_le, nrm_le64, Classical.not_not] at h1
      try simp only [lcmpE, lcmpL, lcmpG, lcmpLE, lcmpGT, nrm_le, nrm_le64, Classical.not_not] at h2
      exact aw_zret dX8_holds_39 rfl (by decide) ((by unfold sp_held at hQ; rw [if_neg (sp_on0.mp h1), if_pos h2] at hQ; exact hQ)) (Nat.zero_le _) (Nat.zero_le _)
    · skip
      refine aw_iconst (v := nI 1) dX8_holds_34 (by decide) ?_
      refine aw_goto (t := 39) dX8_holds_35 (by decide) ?_
      try simp only [lcmpE, lcmpL, lcmpG, lcmpLE, lcmpGT, nrm_le, nrm_le64, Classical.not_not] at h1
      try simp only [lcmpE, lcmpL, lcmpG, lcmpLE, lcmpGT, nrm_le, nrm_le64, Classical.not_not] at h2
      exact aw_zret dX8_holds_39 rfl (by decide) ((by unfold sp_held at hQ; rw [if_neg (sp_on0.mp h1), if_neg h2] at hQ; exact hQ)) (Nat.zero_le _) (Nat.zero_le _)
  · skip
    refine aw_lload_n dX8_holds_14 rfl ?_
    refine aw_lconst (v := 0) dX8_holds_15 (by decide) ?_
    refine aw_lcmp dX8_holds_16 ?_
    refine aw_if_ne (t := 24) dX8_holds_17 (by decide) (fun h3 => ?_) (fun h3 => ?_)
    · skip
      refine aw_iconst (v := nI 0) dX8_holds_24 (by decide) ?_
      refine aw_goto (t := 39) dX8_holds_25 (by decide) ?_
      try simp only [lcmpE, lcmpL, lcmpG, lcmpLE, lcmpGT, nrm_le, nrm_le64, Classical.not_not] at h1
      try simp only [lcmpE, lcmpL, lcmpG, lcmpLE, lcmpGT, nrm_le, nrm_le64, Classical.not_not] at h3
      exact aw_zret dX8_holds_39 rfl (by decide) ((by unfold sp_held at hQ; rw [if_pos (Classical.byContradiction fun q9 => h1 (sp_on0.mpr q9)), if_neg h3] at hQ; exact hQ)) (Nat.zero_le _) (Nat.zero_le _)
    · skip
      refine aw_iconst (v := nI 1) dX8_holds_20 (by decide) ?_
      refine aw_goto (t := 39) dX8_holds_21 (by decide) ?_
      try simp only [lcmpE, lcmpL, lcmpG, lcmpLE, lcmpGT, nrm_le, nrm_le64, Classical.not_not] at h1
      try simp only [lcmpE, lcmpL, lcmpG, lcmpLE, lcmpGT, nrm_le, nrm_le64, Classical.not_not] at h3
      exact aw_zret dX8_holds_39 rfl (by decide) ((by unfold sp_held at hQ; rw [if_pos (Classical.byContradiction fun q9 => h1 (sp_on0.mpr q9)), if_pos h3] at hQ; exact hQ)) (Nat.zero_le _) (Nat.zero_le _)

/-! THE REFERENCE: lines laid, determinants with the right side -/
def rm_c (I : aw_MI) (n : Nat) (mb : Nat → Nat) (c r : Nat) : Int := if r < n ∧ c < n then (I 66 (3 * r + c)).toInt else if r < n then (rp_row I n (mb (c - n)) r).toInt else if c < n then (rp_row I n (mb (r - n)) c).toInt else 0
def rm_b (I : aw_MI) (n : Nat) (mb : Nat → Nat) (t : Int32) (r : Nat) : Int := if r < n then (-(I 67 r)).toInt else (rp_bd I (mb (r - n)) t).toInt
def rm_u (I : aw_MI) (n : Nat) (mb : Nat → Nat) (r : Nat) : Int := if r < n then 0 else (rp_ri I (mb (r - n))).toInt
theorem rp_row_c {I I' : aw_MI} {n l i : Nat} (h : I' 68 = I 68) : rp_row I' n l i = rp_row I n l i := by
  unfold rp_row
  rw [h]
theorem rp_bd_c {I I' : aw_MI} {l : Nat} {t : Int32} (h : I' 68 = I 68) : rp_bd I' l t = rp_bd I l t := by
  unfold rp_bd
  rw [h]
theorem rp_ri_c {I I' : aw_MI} {l : Nat} (h : I' 68 = I 68) : rp_ri I' l = rp_ri I l := by
  unfold rp_ri
  rw [h]
theorem rm_c_c {I I' : aw_MI} {n : Nat} {mb : Nat → Nat} (h : I' 68 = I 68) (h6 : I' 66 = I 66) : rm_c I' n mb = rm_c I n mb := by
  funext c r
  unfold rm_c
  rw [h6, rp_row_c h, rp_row_c h]
theorem rm_b_c {I I' : aw_MI} {n : Nat} {mb : Nat → Nat} {t : Int32} (h : I' 68 = I 68) (h7 : I' 67 = I 67) : rm_b I' n mb t = rm_b I n mb t := by
  funext r
  unfold rm_b
  rw [h7, rp_bd_c h]
theorem rm_u_c {I I' : aw_MI} {n : Nat} {mb : Nat → Nat} (h : I' 68 = I 68) : rm_u I' n mb = rm_u I n mb := by
  funext r
  unfold rm_u
  rw [rp_ri_c h]
/-- which lines -/
def ls_P (I0 I : aw_MI) (x : Int32) (l : Nat) : Prop := (∀ a, a ≠ 77 → I a = I0 a) ∧ ∀ j, j < (sp_mb x l).length → I 77 j = nI ((sp_mb x l).getD j 0)
theorem ls_t {I0 I : aw_MI} {l : Nat} {x : Int32} (h : ls_P I0 I x l) (hb : ¬ x >>> (nI l &&& 31) &&& nI 1 = 0) : ls_P I0 (aw_up I 77 (sp_mb x l).length (nI l)) x (l + 1) := by
  refine ⟨fun a ha => ?_, fun j hj => ?_⟩
  · rw [aw_up_off I _ ha, h.1 a ha]
  · rw [sp_mb_t hb] at hj ⊢
    simp only [List.length_append, List.length_cons, List.length_nil] at hj
    by_cases e : j = (sp_mb x l).length
    · subst e
      rw [aw_up_self]
      simp
    · rw [aw_up_ne I _ (Or.inr e), h.2 j (by omega), List.getD_eq_getElem?_getD, List.getD_eq_getElem?_getD, List.getElem?_append_left (by omega)]
theorem ls_f {I0 I : aw_MI} {l : Nat} {x : Int32} (h : ls_P I0 I x l) (hb : x >>> (nI l &&& 31) &&& nI 1 = 0) : ls_P I0 I x (l + 1) := by
  unfold ls_P
  rw [sp_mb_f hb]
  exact h
theorem mb_le (x : Int32) : ∀ l, (sp_mb x l).length ≤ l
  | 0 => Nat.le_refl _
  | l + 1 => by
    unfold sp_mb
    have := mb_le x l
    split
    · omega
    · rw [List.length_append]
      simp only [List.length_cons, List.length_nil]
      omega
theorem lX8_laysSome {G : aw_G} {d : Nat} {Ω : aw_O} {I0 : aw_MI} {J : aw_MJ} {Q : Int32 → aw_O → aw_MI → aw_MJ → Prop} {m S : Nat} (hM : aw_model Ω 65) (hm : I0 65 4 = nI m) (hm6 : m ≤ 6) (hS : S < 2 ^ m) (hd : 1 ≤ d) (hQ : ∀ I', (∀ a, a ≠ 77 → I' a = I0 a) → (∀ j, j < cx_n S m → I' 77 j = nI (cx_mb S m j)) → Q (nI (cx_n S m)) Ω I' J) : ∀ (z l : Nat) (I : aw_MI), l ≤ m → m - l < z → ls_P I0 I (nI S) l → AW G MX8_laysSome (aw_nx Ω) d 0 0 (aw_QI Q) Ω I J 0 0 [.ref (aw_ad G 65), .int (nI S), .int (nI ((sp_mb (nI S) l).length)), .int (nI l)] 4 [] := by
  intro z
  induction z with
  | zero =>
    intro l I h0 hz hP
    exact absurd hz (by omega)
  | succ z ih =>
    intro l I h0 hz hP
    have h64 : 2 ^ m ≤ 2 ^ 6 := Nat.pow_le_pow_right (by decide) hm6
    have hlen := mb_le (nI S) l
    refine aw_iload_n dX8_laysSome_4 rfl ?_
    refine aw_aload_n dX8_laysSome_5 rfl ?_
    refine aw_getIv (v := nI m) dX8_laysSome_6 flX8_88 hM.o (by rw [hP.1 65 (by decide)]; exact hm) ?_
    refine aw_geN (t := 36) dX8_laysSome_9 (by decide) (by omega) (by omega) (fun h1 => ?_) (fun h1 => ?_)
    · skip
      refine aw_iload_n dX8_laysSome_36 rfl ?_
      have e9 : l = m := by omega
      rw [e9] at hP
      exact aw_iret dX8_laysSome_37 rfl ((by rw [e9]; exact hQ I hP.1 hP.2)) (Nat.zero_le _) (Nat.zero_le _)
    · skip
      refine aw_iload_n dX8_laysSome_12 rfl ?_
      refine aw_iload_n dX8_laysSome_13 rfl ?_
      refine aw_csI (As := [_, _]) (d' := d - 1) dX8_laysSome_14 lkX8_135 (by omega) rfl rfl (Nat.le_of_ble_eq_true rfl) ⟨Nat.le_refl _, Nat.le_refl _⟩ (tX8_has ?_)
      refine aw_if_eq (t := 30) dX8_laysSome_17 (by decide) (fun h2 => ?_) (fun h2 => ?_)
      · skip
        refine aw_iincN dX8_laysSome_30 rfl (by decide) ?_
        refine aw_lv (lv2 := [.ref _, .int _, .int _, .int _]) rfl ?_
        refine aw_goto (t := 4) dX8_laysSome_33 (by decide) ?_
        have hb := (has_ok S (by omega) l (by omega)).mp h2
        have q9 := ih (l + 1) I (by omega) (by omega) (ls_f hP hb)
        rw [sp_mb_f hb] at q9
        exact q9
      · skip
        refine aw_aload_n dX8_laysSome_20 rfl ?_
        refine aw_getR dX8_laysSome_21 flX8_48 hM.o hM.p21 ?_
        refine aw_iload_n dX8_laysSome_24 rfl ?_
        refine aw_iload_n dX8_laysSome_25 rfl ?_
        refine aw_iast dX8_laysSome_26 hM.s21 rfl (by omega) rfl ?_
        refine aw_pc (pc2 := 27) rfl ?_
        refine aw_iincN dX8_laysSome_27 rfl (by decide) ?_
        refine aw_lv (lv2 := [.ref _, .int _, .int _, .int _]) rfl ?_
        refine aw_iincN dX8_laysSome_30 rfl (by decide) ?_
        refine aw_lv (lv2 := [.ref _, .int _, .int _, .int _]) rfl ?_
        refine aw_goto (t := 4) dX8_laysSome_33 (by decide) ?_
        have hb : ¬ nI S >>> (nI l &&& 31) &&& nI 1 = 0 := fun q => h2 ((has_ok S (by omega) l (by omega)).mpr q)
        have q9 := ih (l + 1) _ (by omega) (by omega) (ls_t hP hb)
        rw [sp_mb_t hb, List.length_append] at q9
        exact q9
theorem tX8_laysSome {G : aw_G} {d : Nat} {Ω : aw_O} {I : aw_MI} {J : aw_MJ} {Q : Int32 → aw_O → aw_MI → aw_MJ → Prop} {m S : Nat} (hM : aw_model Ω 65) (hm : I 65 4 = nI m) (hm6 : m ≤ 6) (hS : S < 2 ^ m) (hd : 1 ≤ d) (hQ : ∀ I', (∀ a, a ≠ 77 → I' a = I a) → (∀ j, j < cx_n S m → I' 77 j = nI (cx_mb S m j)) → Q (nI (cx_n S m)) Ω I' J) : aw_Call G MX8_laysSome d 0 0 [.ref (aw_ad G 65), .int (nI S)] Ω I J (aw_QI Q) := by
  refine aw_enter (by decide +kernel) rfl (Nat.le_of_ble_eq_true rfl) ?_
  show AW G MX8_laysSome (aw_nx Ω) d 0 0 (aw_QI Q) Ω I J 0 0 [.ref (aw_ad G 65), .int (nI S), .null, .null] 0 []
  refine aw_iconst (v := nI 0) dX8_laysSome_0 (by decide) ?_
  refine aw_istore_n dX8_laysSome_1 (by decide) ?_
  refine aw_lv (lv2 := [.ref _, .int _, .int _, .null]) rfl ?_
  refine aw_iconst (v := nI 0) dX8_laysSome_2 (by decide) ?_
  refine aw_istore_n dX8_laysSome_3 (by decide) ?_
  refine aw_lv (lv2 := [.ref _, .int _, .int _, .int _]) rfl ?_
  exact lX8_laysSome hM hm hm6 hS hd hQ (m + 1) 0 I (by omega) (by omega) ⟨fun _ _ => rfl, fun j hj => absurd hj (by simp [sp_mb])⟩
theorem lX8_laysCells2 {G : aw_G} {d : Nat} {Ω : aw_O} {I : aw_MI} {Q : aw_O → aw_MI → aw_MJ → Prop} {n k i : Nat} {mb : Nat → Nat} {J0 : aw_MJ} (hM : aw_model Ω 65) (hn : I 65 0 = nI n) (hn3 : n ≤ 3) (hk : k ≤ n) (hw : I 65 13 = nI (n + k)) (hmb : ∀ j, j < k → I 77 j = nI (mb j) ∧ mb j < 6) (hd : 1 ≤ d) (hi : i < n + k) (kk : ∀ J', mq_P (fun r c => Int64.ofInt (rm_c I n mb c r)) J0 J' (n + k) (i + 1) 0 → AW G MX8_laysCells (aw_nx Ω) d 0 0 (aw_QV Q) Ω I J' 0 0 [.ref (aw_ad G 65), .int (nI k), .int (nI (i + 1)), .null] 12 []) : ∀ (z j : Nat) (J : aw_MJ), j ≤ n + k → n + k - j < z → mq_P (fun r c => Int64.ofInt (rm_c I n mb c r)) J0 J (n + k) i j → AW G MX8_laysCells (aw_nx Ω) d 0 0 (aw_QV Q) Ω I J 0 0 [.ref (aw_ad G 65), .int (nI k), .int (nI i), .int (nI j)] 22 [] := by
  intro z
  induction z with
  | zero =>
    intro j J h0 hz hP
    exact absurd hz (by omega)
  | succ z ih =>
    intro j J h0 hz hP
    refine aw_iload_n dX8_laysCells_22 rfl ?_
    refine aw_aload_n dX8_laysCells_23 rfl ?_
    refine aw_getIv (v := nI (n + k)) dX8_laysCells_24 flX8_132 hM.o hw ?_
    refine aw_geN (t := 134) dX8_laysCells_27 (by decide) (by omega) (by omega) (fun h1 => ?_) (fun h1 => ?_)
    · skip
      refine aw_iincN dX8_laysCells_134 rfl (by decide) ?_
      refine aw_lv (lv2 := [.ref _, .int _, .int _, .int _]) rfl ?_
      refine aw_goto (t := 12) dX8_laysCells_137 (by decide) ?_
      refine aw_frg 3 ?_
      rw [show j = n + k from by omega] at hP
      exact kk _ (mq_n hP)
    · skip
      refine aw_aload_n dX8_laysCells_30 rfl ?_
      refine aw_getR dX8_laysCells_31 flX8_29 hM.o hM.p14 ?_
      refine aw_bipush (v := nI 6) dX8_laysCells_34 (by decide) ?_
      refine aw_iload_n dX8_laysCells_36 rfl ?_
      refine aw_imulN dX8_laysCells_37 ?_
      refine aw_pc (pc2 := 38) rfl ?_
      refine aw_iload_n dX8_laysCells_38 rfl ?_
      refine aw_iaddN dX8_laysCells_39 ?_
      refine aw_iload_n dX8_laysCells_40 rfl ?_
      refine aw_aload_n dX8_laysCells_41 rfl ?_
      refine aw_getIv (v := nI n) dX8_laysCells_42 flX8_7 hM.o hn ?_
      refine aw_geN (t := 70) dX8_laysCells_45 (by decide) (by omega) (by omega) (fun h2 => ?_) (fun h2 => ?_)
      · skip
        refine aw_iload_n dX8_laysCells_70 rfl ?_
        refine aw_aload_n dX8_laysCells_71 rfl ?_
        refine aw_getIv (v := nI n) dX8_laysCells_72 flX8_7 hM.o hn ?_
        refine aw_geN (t := 98) dX8_laysCells_75 (by decide) (by omega) (by omega) (fun h3 => ?_) (fun h3 => ?_)
        · skip
          refine aw_iload_n dX8_laysCells_98 rfl ?_
          refine aw_aload_n dX8_laysCells_99 rfl ?_
          refine aw_getIv (v := nI n) dX8_laysCells_100 flX8_7 hM.o hn ?_
          refine aw_geN (t := 126) dX8_laysCells_103 (by decide) (by omega) (by omega) (fun h4 => ?_) (fun h4 => ?_)
          · skip
            refine aw_lconst (v := 0) dX8_laysCells_126 (by decide) ?_
            refine aw_last dX8_laysCells_127 hM.s14 rfl (by omega) rfl ?_
            refine aw_iincN dX8_laysCells_128 rfl (by decide) ?_
            refine aw_lv (lv2 := [.ref _, .int _, .int _, .int _]) rfl ?_
            refine aw_goto (t := 22) dX8_laysCells_131 (by decide) ?_
            exact ih (j + 1) _ (by omega) (by omega) (mq_s hP (by omega) (by show _ = Int64.ofInt (rm_c I n mb j i); unfold rm_c; rw [if_neg (by omega), if_neg (by omega), if_neg (by omega)]; rfl) hi (by omega))
          · skip
            refine aw_aload_n dX8_laysCells_106 rfl ?_
            refine aw_aload_n dX8_laysCells_107 rfl ?_
            refine aw_getR dX8_laysCells_108 flX8_48 hM.o hM.p21 ?_
            refine aw_iload_n dX8_laysCells_111 rfl ?_
            refine aw_aload_n dX8_laysCells_112 rfl ?_
            refine aw_pc (pc2 := 113) rfl ?_
            refine aw_getIv (v := nI n) dX8_laysCells_113 flX8_7 hM.o hn ?_
            refine aw_isubN dX8_laysCells_116 (by omega) ?_
            refine aw_ialdv (v := nI (mb (i - n))) dX8_laysCells_117 hM.s21 rfl (by omega) (hmb (i - n) (by omega)).1 ?_
            refine aw_iload_n dX8_laysCells_118 rfl ?_
            refine aw_cvI (As := [_, _]) (d' := d - 1) dX8_laysCells_119 lkX8_129 hM.o (by omega) rfl rfl (Nat.le_of_ble_eq_true rfl) ⟨Nat.le_refl _, Nat.le_refl _⟩ (tX8_row hM hn hn3 (hmb _ (by omega)).2 (by omega) ?_)
            refine aw_i2l dX8_laysCells_122 ?_
            refine aw_pc (pc2 := 123) rfl ?_
            refine aw_goto (t := 127) dX8_laysCells_123 (by decide) ?_
            refine aw_last dX8_laysCells_127 hM.s14 rfl (by omega) rfl ?_
            refine aw_iincN dX8_laysCells_128 rfl (by decide) ?_
            refine aw_lv (lv2 := [.ref _, .int _, .int _, .int _]) rfl ?_
            refine aw_goto (t := 22) dX8_laysCells_131 (by decide) ?_
            exact ih (j + 1) _ (by omega) (by omega) (mq_s hP (by omega) (by show _ = Int64.ofInt (rm_c I n mb j i); unfold rm_c; rw [if_neg (by omega), if_neg (by omega), if_pos (by omega)]; rfl) hi (by omega))
        · skip
          exact absurd h3 (by omega)
      · skip
        refine aw_iload_n dX8_laysCells_48 rfl ?_
        refine aw_aload_n dX8_laysCells_49 rfl ?_
        refine aw_getIv (v := nI n) dX8_laysCells_50 flX8_7 hM.o hn ?_
        refine aw_geN (t := 70) dX8_laysCells_53 (by decide) (by omega) (by omega) (fun h5 => ?_) (fun h5 => ?_)
        · skip
          refine aw_iload_n dX8_laysCells_70 rfl ?_
          refine aw_aload_n dX8_laysCells_71 rfl ?_
          refine aw_getIv (v := nI n) dX8_laysCells_72 flX8_7 hM.o hn ?_
          refine aw_geN (t := 98) dX8_laysCells_75 (by decide) (by omega) (by omega) (fun h6 => ?_) (fun h6 => ?_)
          · skip
            exact absurd h6 (by omega)
          · skip
            refine aw_aload_n dX8_laysCells_78 rfl ?_
            refine aw_aload_n dX8_laysCells_79 rfl ?_
            refine aw_getR dX8_laysCells_80 flX8_48 hM.o hM.p21 ?_
            refine aw_iload_n dX8_laysCells_83 rfl ?_
            refine aw_aload_n dX8_laysCells_84 rfl ?_
            refine aw_pc (pc2 := 85) rfl ?_
            refine aw_getIv (v := nI n) dX8_laysCells_85 flX8_7 hM.o hn ?_
            refine aw_isubN dX8_laysCells_88 (by omega) ?_
            refine aw_ialdv (v := nI (mb (j - n))) dX8_laysCells_89 hM.s21 rfl (by omega) (hmb (j - n) (by omega)).1 ?_
            refine aw_iload_n dX8_laysCells_90 rfl ?_
            refine aw_cvI (As := [_, _]) (d' := d - 1) dX8_laysCells_91 lkX8_129 hM.o (by omega) rfl rfl (Nat.le_of_ble_eq_true rfl) ⟨Nat.le_refl _, Nat.le_refl _⟩ (tX8_row hM hn hn3 (hmb _ (by omega)).2 (by omega) ?_)
            refine aw_i2l dX8_laysCells_94 ?_
            refine aw_pc (pc2 := 95) rfl ?_
            refine aw_goto (t := 127) dX8_laysCells_95 (by decide) ?_
            refine aw_last dX8_laysCells_127 hM.s14 rfl (by omega) rfl ?_
            refine aw_iincN dX8_laysCells_128 rfl (by decide) ?_
            refine aw_lv (lv2 := [.ref _, .int _, .int _, .int _]) rfl ?_
            refine aw_goto (t := 22) dX8_laysCells_131 (by decide) ?_
            exact ih (j + 1) _ (by omega) (by omega) (mq_s hP (by omega) (by show _ = Int64.ofInt (rm_c I n mb j i); unfold rm_c; rw [if_neg (by omega), if_pos (by omega)]; rfl) hi (by omega))
        · skip
          refine aw_aload_n dX8_laysCells_56 rfl ?_
          refine aw_getR dX8_laysCells_57 flX8_13 hM.o hM.p1 ?_
          refine aw_iconst (v := nI 3) dX8_laysCells_60 (by decide) ?_
          refine aw_iload_n dX8_laysCells_61 rfl ?_
          refine aw_imulN dX8_laysCells_62 ?_
          refine aw_pc (pc2 := 63) rfl ?_
          refine aw_iload_n dX8_laysCells_63 rfl ?_
          refine aw_iaddN dX8_laysCells_64 ?_
          refine aw_iald dX8_laysCells_65 hM.s1 rfl (by omega) ?_
          refine aw_i2l dX8_laysCells_66 ?_
          refine aw_goto (t := 127) dX8_laysCells_67 (by decide) ?_
          refine aw_last dX8_laysCells_127 hM.s14 rfl (by omega) rfl ?_
          refine aw_iincN dX8_laysCells_128 rfl (by decide) ?_
          refine aw_lv (lv2 := [.ref _, .int _, .int _, .int _]) rfl ?_
          refine aw_goto (t := 22) dX8_laysCells_131 (by decide) ?_
          exact ih (j + 1) _ (by omega) (by omega) (mq_s hP (by omega) (by show _ = Int64.ofInt (rm_c I n mb j i); unfold rm_c; rw [if_pos ⟨by omega, by omega⟩]; rfl) hi (by omega))
theorem lX8_laysCells1 {G : aw_G} {d : Nat} {Ω : aw_O} {I : aw_MI} {Q : aw_O → aw_MI → aw_MJ → Prop} {n k : Nat} {mb : Nat → Nat} {J0 : aw_MJ} (hM : aw_model Ω 65) (hn : I 65 0 = nI n) (hn3 : n ≤ 3) (hk : k ≤ n) (hw : I 65 13 = nI (n + k)) (hmb : ∀ j, j < k → I 77 j = nI (mb j) ∧ mb j < 6) (hd : 1 ≤ d) (hQ : ∀ J', (∀ a, a ≠ 71 → J' a = J0 a) → (∀ r c, r < n + k → c < n + k → J' 71 (6 * r + c) = Int64.ofInt (rm_c I n mb c r)) → Q Ω I J') : ∀ (z i : Nat) (J : aw_MJ), i ≤ n + k → n + k - i < z → mq_P (fun r c => Int64.ofInt (rm_c I n mb c r)) J0 J (n + k) i 0 → AW G MX8_laysCells (aw_nx Ω) d 0 0 (aw_QV Q) Ω I J 0 0 [.ref (aw_ad G 65), .int (nI k), .int (nI i), .null] 12 [] := by
  intro z
  induction z with
  | zero =>
    intro i J h0 hz hP
    exact absurd hz (by omega)
  | succ z ih =>
    intro i J h0 hz hP
    refine aw_iload_n dX8_laysCells_12 rfl ?_
    refine aw_aload_n dX8_laysCells_13 rfl ?_
    refine aw_getIv (v := nI (n + k)) dX8_laysCells_14 flX8_132 hM.o hw ?_
    refine aw_geN (t := 140) dX8_laysCells_17 (by decide) (by omega) (by omega) (fun h1 => ?_) (fun h1 => ?_)
    · skip
      exact aw_vret dX8_laysCells_140 rfl (hQ J hP.2 (fun r c h1 h2 => hP.1 r c h1 h2 (by omega))) (Nat.zero_le _) (Nat.zero_le _)
    · skip
      refine aw_iconst (v := nI 0) dX8_laysCells_20 (by decide) ?_
      refine aw_istore_n dX8_laysCells_21 (by decide) ?_
      refine aw_lv (lv2 := [.ref _, .int _, .int _, .int _]) rfl ?_
      exact lX8_laysCells2 hM hn hn3 hk hw hmb hd (by omega) (fun J' hP' => ih (i + 1) J' (by omega) (by omega) hP') (n + k + 1) 0 J (by omega) (by omega) hP
theorem tX8_laysCells {G : aw_G} {d : Nat} {Ω : aw_O} {I : aw_MI} {J : aw_MJ} {Q : aw_O → aw_MI → aw_MJ → Prop} {n k : Nat} {mb : Nat → Nat} (hM : aw_model Ω 65) (hn : I 65 0 = nI n) (hn3 : n ≤ 3) (hk : k ≤ n) (hmb : ∀ j, j < k → I 77 j = nI (mb j) ∧ mb j < 6) (hd : 1 ≤ d) (hQ : ∀ J', (∀ a, a ≠ 71 → J' a = J a) → (∀ r c, r < n + k → c < n + k → J' 71 (6 * r + c) = Int64.ofInt (rm_c I n mb c r)) → Q Ω (aw_up I 65 13 (nI (n + k))) J') : aw_Call G MX8_laysCells d 0 0 [.ref (aw_ad G 65), .int (nI k)] Ω I J (aw_QV Q) := by
  refine aw_enter (by decide +kernel) rfl (Nat.le_of_ble_eq_true rfl) ?_
  show AW G MX8_laysCells (aw_nx Ω) d 0 0 (aw_QV Q) Ω I J 0 0 [.ref (aw_ad G 65), .int (nI k), .null, .null] 0 []
  refine aw_aload_n dX8_laysCells_0 rfl ?_
  refine aw_aload_n dX8_laysCells_1 rfl ?_
  refine aw_getIv (v := nI n) dX8_laysCells_2 flX8_7 hM.o hn ?_
  refine aw_iload_n dX8_laysCells_5 rfl ?_
  refine aw_iaddN dX8_laysCells_6 ?_
  refine aw_pc (pc2 := 7) rfl ?_
  refine aw_putI dX8_laysCells_7 fwX8_132 hM.o rfl ?_
  refine aw_iconst (v := nI 0) dX8_laysCells_10 (by decide) ?_
  refine aw_istore_n dX8_laysCells_11 (by decide) ?_
  refine aw_lv (lv2 := [.ref _, .int _, .int _, .null]) rfl ?_
  exact lX8_laysCells1 (J0 := J) (mb := mb) hM (by rw [aw_up_ne I _ (by decide)]; exact hn) hn3 hk (aw_up_self _ _ _ _) (fun j hj => by rw [aw_up_off I _ (by decide)]; exact hmb j hj) hd (fun J' a1 a2 => hQ J' a1 (fun r c h1 h2 => by rw [a2 r c h1 h2, rm_c_c (I' := aw_up I 65 13 (nI (n + k))) (aw_up_off I _ (by decide)) (aw_up_off I _ (by decide))])) (n + k + 1) 0 J (by omega) (by omega) ⟨fun r c _ _ h3 => absurd h3 (by omega), fun _ _ => rfl⟩
def ce_L (C : Nat → Nat → Int) (b : Nat → Int) (w : Nat) (J : aw_MJ) : Prop := (∀ r c, r < w → c < w → J 71 (6 * r + c) = Int64.ofInt (C c r)) ∧ ∀ r, r < w → J 78 r = Int64.ofInt (b r)
def in_C (C : Nat → Nat → Int) (q : Nat) (b : Nat → Int) (i : Nat) : Nat → Nat → Int := dt_rp C q (fun r => if r < i then b r else C q r)
def in_b (C : Nat → Nat → Int) (q : Nat) (b : Nat → Int) (i : Nat) : Nat → Int := fun r => if r < i then C q r else b r
def in_P (C : Nat → Nat → Int) (b : Nat → Int) (w q : Nat) (J0 J : aw_MJ) (i : Nat) : Prop := ce_L (in_C C q b i) (in_b C q b i) w J ∧ ∀ a, a ≠ 71 → a ≠ 72 → a ≠ 78 → J a = J0 a
theorem in_s {C : Nat → Nat → Int} {b : Nat → Int} {w q i : Nat} {J0 J : aw_MJ} (h : in_P C b w q J0 J i) (hw : w ≤ 6) (hi : i < w) (hq : q < w) : in_P C b w q J0 (aw_up (aw_up J 71 (6 * i + q) (J 78 i)) 78 i (J 71 (6 * i + q))) (i + 1) := by
  obtain ⟨⟨h1, h2⟩, h3⟩ := h
  refine ⟨⟨fun r c hr hc => ?_, fun r hr => ?_⟩, fun a a1 a2 a3 => ?_⟩
  · rw [aw_up_off _ _ (by decide)]
    by_cases e : r = i ∧ c = q
    · rw [e.1, e.2, aw_up_self, h2 i hi]
      simp only [in_C, in_b, dt_rp]
      rw [if_neg (by omega)]
      simp
    · rw [aw_up_ne J _ (by omega), h1 r c hr hc]
      simp only [in_C, dt_rp]
      by_cases e2 : c = q
      · rw [if_pos e2, if_pos e2]
        by_cases e3 : r < i
        · rw [if_pos e3, if_pos (by omega)]
        · rw [if_neg e3, if_neg (by omega)]
      · rw [if_neg e2, if_neg e2]
  · by_cases e : r = i
    · rw [e, aw_up_self, h1 i q hi hq]
      simp [in_C, in_b, dt_rp]
    · rw [aw_up_ne _ _ (Or.inr e), aw_up_off J _ (by decide), h2 r hr]
      simp only [in_b]
      by_cases e3 : r < i
      · rw [if_pos e3, if_pos (by omega)]
      · rw [if_neg e3, if_neg (by omega)]
  · rw [aw_up_off _ _ a3, aw_up_off J _ a1, h3 a a1 a2 a3]
theorem in_0 {C : Nat → Nat → Int} {b : Nat → Int} {w q : Nat} {J : aw_MJ} (h : ce_L C b w J) : in_P C b w q J J 0 := by
  refine ⟨⟨fun r c hr hc => ?_, fun r hr => ?_⟩, fun _ _ _ _ => rfl⟩
  · rw [h.1 r c hr hc]
    simp only [in_C, dt_rp]
    by_cases e : c = q
    · rw [if_pos e, e]; simp
    · rw [if_neg e]
  · rw [h.2 r hr]
    simp [in_b]
theorem in_w {C : Nat → Nat → Int} {b : Nat → Int} {w q : Nat} {J0 J : aw_MJ} (h : in_P C b w q J0 J w) : ce_L (dt_rp C q b) (C q) w J := by
  refine ⟨fun r c hr hc => ?_, fun r hr => ?_⟩
  · rw [h.1.1 r c hr hc]
    simp only [in_C, dt_rp]
    by_cases e : c = q
    · rw [if_pos e, if_pos e, if_pos hr]
    · rw [if_neg e, if_neg e]
  · rw [h.1.2 r hr]
    simp only [in_b]
    rw [if_pos hr]
theorem in_2 {C : Nat → Nat → Int} {b : Nat → Int} {w q : Nat} {J : aw_MJ} (h2 : ce_L (dt_rp (dt_rp C q b) q (C q)) (dt_rp C q b q) w J) : ce_L C b w J := by
  refine ⟨fun r c hr hc => ?_, fun r hr => ?_⟩
  · rw [h2.1 r c hr hc]
    simp only [dt_rp]
    by_cases e : c = q
    · rw [if_pos e, e]
    · rw [if_neg e, if_neg e]
  · rw [h2.2 r hr]
    simp [dt_rp]
theorem lX8_instead2 {G : aw_G} {d : Nat} {Ω : aw_O} {I : aw_MI} {Q : Int64 → aw_O → aw_MI → aw_MJ → Prop} {w q : Nat} {C : Nat → Nat → Int} {b : Nat → Int} {J0 : aw_MJ} (hM : aw_model Ω 65) (hw : I 65 13 = nI w) (hw6 : w ≤ 6) (hq : q < w) {v : Int64} (hQ : ∀ J', (∀ a, a ≠ 71 → a ≠ 72 → a ≠ 78 → J' a = J0 a) → ce_L (dt_rp C q b) (C q) w J' → Q v Ω I J') : ∀ (z i : Nat) (J : aw_MJ), i ≤ w → w - i < z → in_P C b w q J0 J i → AW G MX8_instead (aw_nx Ω) d 0 0 (aw_QL Q) Ω I J 0 0 [.ref (aw_ad G 65), .int (nI q), .long v, .null, .int (nI i), .null, .null] 60 [] := by
  intro z
  induction z with
  | zero =>
    intro i J h0 hz hP
    exact absurd hz (by omega)
  | succ z ih =>
    intro i J h0 hz hP
    refine aw_iload dX8_instead_60 rfl ?_
    refine aw_aload_n dX8_instead_62 rfl ?_
    refine aw_getIv (v := nI w) dX8_instead_63 flX8_132 hM.o (by first | exact hw | (simp (disch := omega) only [aw_cp_off, aw_up_off, aw_wr_off, aw_fill_off, aw_fr_off]; exact hw)) ?_
    refine aw_geN (t := 117) dX8_instead_66 (by decide) (by omega) (by omega) (fun h1 => ?_) (fun h1 => ?_)
    · skip
      refine aw_lload_n dX8_instead_117 rfl ?_
      exact aw_lret dX8_instead_118 rfl (hQ J hP.2 (in_w (by rw [show i = w from by omega] at hP; exact hP))) (Nat.zero_le _) (Nat.zero_le _)
    · skip
      refine aw_aload_n dX8_instead_69 rfl ?_
      refine aw_getR dX8_instead_70 flX8_29 hM.o hM.p14 ?_
      refine aw_bipush (v := nI 6) dX8_instead_73 (by decide) ?_
      refine aw_iload dX8_instead_75 rfl ?_
      refine aw_imulN dX8_instead_77 ?_
      refine aw_pc (pc2 := 78) rfl ?_
      refine aw_iload_n dX8_instead_78 rfl ?_
      refine aw_iaddN dX8_instead_79 ?_
      refine aw_lald dX8_instead_80 hM.s14 rfl (by omega) ?_
      refine aw_lstore dX8_instead_81 (by decide) ?_
      refine aw_lv (lv2 := [.ref _, .int _, .long _, .null, .int _, .long _, .null]) rfl ?_
      refine aw_aload_n dX8_instead_83 rfl ?_
      refine aw_getR dX8_instead_84 flX8_29 hM.o hM.p14 ?_
      refine aw_pc (pc2 := 87) rfl ?_
      refine aw_bipush (v := nI 6) dX8_instead_87 (by decide) ?_
      refine aw_iload dX8_instead_89 rfl ?_
      refine aw_imulN dX8_instead_91 ?_
      refine aw_iload_n dX8_instead_92 rfl ?_
      refine aw_iaddN dX8_instead_93 ?_
      refine aw_aload_n dX8_instead_94 rfl ?_
      refine aw_pc (pc2 := 95) rfl ?_
      refine aw_getR dX8_instead_95 flX8_51 hM.o hM.p22 ?_
      refine aw_iload dX8_instead_98 rfl ?_
      refine aw_lald dX8_instead_100 hM.s22 rfl (by omega) ?_
      refine aw_last dX8_instead_101 hM.s14 rfl (by omega) rfl ?_
      refine aw_aload_n dX8_instead_102 rfl ?_
      refine aw_getR dX8_instead_103 flX8_51 hM.o hM.p22 ?_
      refine aw_pc (pc2 := 106) rfl ?_
      refine aw_iload dX8_instead_106 rfl ?_
      refine aw_lload dX8_instead_108 rfl ?_
      refine aw_last dX8_instead_110 hM.s22 rfl (by omega) rfl ?_
      refine aw_iincN dX8_instead_111 rfl (by decide) ?_
      refine aw_lv (lv2 := [.ref _, .int _, .long _, .null, .int _, .long _, .null]) rfl ?_
      refine aw_goto (t := 60) dX8_instead_114 (by decide) ?_
      refine aw_frg 5 ?_
      exact ih (i + 1) _ (by omega) (by omega) (in_s hP hw6 (by omega) hq)
theorem lX8_instead1 {G : aw_G} {d : Nat} {Ω : aw_O} {I : aw_MI} {Q : Int64 → aw_O → aw_MI → aw_MJ → Prop} {w q : Nat} {C : Nat → Nat → Int} {b : Nat → Int} {J0 : aw_MJ} (hM : aw_model Ω 65) (hw : I 65 13 = nI w) (hw6 : w ≤ 6) (hq : q < w) (hd : 2 ≤ d) (hQ : ∀ J', (∀ a, a ≠ 71 → a ≠ 72 → a ≠ 78 → J' a = J0 a) → ce_L C b w J' → Q (Int64.ofInt (dt w (dt_rp C q b))) Ω I J') : ∀ (z i : Nat) (J : aw_MJ), i ≤ w → w - i < z → in_P C b w q J0 J i → AW G MX8_instead (aw_nx Ω) d 0 0 (aw_QL Q) Ω I J 0 0 [.ref (aw_ad G 65), .int (nI q), .int (nI i), .null, .null, .null, .null] 2 [] := by
  intro z
  induction z with
  | zero =>
    intro i J h0 hz hP
    exact absurd hz (by omega)
  | succ z ih =>
    intro i J h0 hz hP
    refine aw_iload_n dX8_instead_2 rfl ?_
    refine aw_aload_n dX8_instead_3 rfl ?_
    refine aw_getIv (v := nI w) dX8_instead_4 flX8_132 hM.o (by first | exact hw | (simp (disch := omega) only [aw_cp_off, aw_up_off, aw_wr_off, aw_fill_off, aw_fr_off]; exact hw)) ?_
    refine aw_geN (t := 52) dX8_instead_7 (by decide) (by omega) (by omega) (fun h1 => ?_) (fun h1 => ?_)
    · skip
      have e1 : i = w := by omega
      rw [e1] at hP
      have hL := in_w hP
      refine aw_aload_n dX8_instead_52 rfl ?_
      refine aw_cvL (As := []) (d' := d - 1) dX8_instead_53 lkX8_139 hM.o (by omega) rfl rfl (Nat.le_of_ble_eq_true rfl) ⟨Nat.le_refl _, Nat.le_refl _⟩ (tX8_determinant (w := w) (pt := dp_pt (dt_rp C q b) w) hM hw hw6 (by omega) hL.1 (dp_dt hw6 (fun r c _ _ => rfl)) ?_)
      · skip
        intro J2 r2
        refine aw_toL (dp_full (by omega)) ?_
        have hL2 : ce_L (dt_rp C q b) (C q) w J2 := ⟨fun r c h1 h2 => by rw [r2 71 (by decide)]; exact hL.1 r c h1 h2, fun r h1 => by rw [r2 78 (by decide)]; exact hL.2 r h1⟩
        refine aw_lstore_n dX8_instead_56 (by decide) ?_
        refine aw_lv (lv2 := [.ref _, .int _, .long _, .null, .null, .null, .null]) rfl ?_
        refine aw_iconst (v := nI 0) dX8_instead_57 (by decide) ?_
        refine aw_istore dX8_instead_58 (by decide) ?_
        refine aw_lv (lv2 := [.ref _, .int _, .long _, .null, .int _, .null, .null]) rfl ?_
        exact lX8_instead2 (C := dt_rp C q b) (b := C q) hM hw hw6 hq (fun J' a1 a2 => hQ J' (fun a b1 b2 b3 => by rw [a1 a b1 b2 b3, r2 a b2, hP.2 a b1 b2 b3]) (in_2 a2)) (w + 1) 0 J2 (by omega) (by omega) (in_0 hL2)
    · skip
      refine aw_aload_n dX8_instead_10 rfl ?_
      refine aw_getR dX8_instead_11 flX8_29 hM.o hM.p14 ?_
      refine aw_bipush (v := nI 6) dX8_instead_14 (by decide) ?_
      refine aw_iload_n dX8_instead_16 rfl ?_
      refine aw_imulN dX8_instead_17 ?_
      refine aw_pc (pc2 := 18) rfl ?_
      refine aw_iload_n dX8_instead_18 rfl ?_
      refine aw_iaddN dX8_instead_19 ?_
      refine aw_lald dX8_instead_20 hM.s14 rfl (by omega) ?_
      refine aw_lstore_n dX8_instead_21 (by decide) ?_
      refine aw_lv (lv2 := [.ref _, .int _, .int _, .long _, .null, .null, .null]) rfl ?_
      refine aw_aload_n dX8_instead_22 rfl ?_
      refine aw_getR dX8_instead_23 flX8_29 hM.o hM.p14 ?_
      refine aw_pc (pc2 := 26) rfl ?_
      refine aw_bipush (v := nI 6) dX8_instead_26 (by decide) ?_
      refine aw_iload_n dX8_instead_28 rfl ?_
      refine aw_imulN dX8_instead_29 ?_
      refine aw_iload_n dX8_instead_30 rfl ?_
      refine aw_iaddN dX8_instead_31 ?_
      refine aw_aload_n dX8_instead_32 rfl ?_
      refine aw_pc (pc2 := 33) rfl ?_
      refine aw_getR dX8_instead_33 flX8_51 hM.o hM.p22 ?_
      refine aw_iload_n dX8_instead_36 rfl ?_
      refine aw_lald dX8_instead_37 hM.s22 rfl (by omega) ?_
      refine aw_last dX8_instead_38 hM.s14 rfl (by omega) rfl ?_
      refine aw_aload_n dX8_instead_39 rfl ?_
      refine aw_getR dX8_instead_40 flX8_51 hM.o hM.p22 ?_
      refine aw_pc (pc2 := 43) rfl ?_
      refine aw_iload_n dX8_instead_43 rfl ?_
      refine aw_lload_n dX8_instead_44 rfl ?_
      refine aw_last dX8_instead_45 hM.s22 rfl (by omega) rfl ?_
      refine aw_iincN dX8_instead_46 rfl (by decide) ?_
      refine aw_lv (lv2 := [.ref _, .int _, .int _, .long _, .null, .null, .null]) rfl ?_
      refine aw_goto (t := 2) dX8_instead_49 (by decide) ?_
      refine aw_frg 3 ?_
      exact ih (i + 1) _ (by omega) (by omega) (in_s hP hw6 (by omega) hq)
theorem tX8_instead {G : aw_G} {d : Nat} {Ω : aw_O} {I : aw_MI} {J : aw_MJ} {Q : Int64 → aw_O → aw_MI → aw_MJ → Prop} {w q : Nat} {C : Nat → Nat → Int} {b : Nat → Int} (hM : aw_model Ω 65) (hw : I 65 13 = nI w) (hw6 : w ≤ 6) (hq : q < w) (hL : ce_L C b w J) (hd : 2 ≤ d) (hQ : ∀ J', (∀ a, a ≠ 71 → a ≠ 72 → a ≠ 78 → J' a = J a) → ce_L C b w J' → Q (Int64.ofInt (dt w (dt_rp C q b))) Ω I J') : aw_Call G MX8_instead d 0 0 [.ref (aw_ad G 65), .int (nI q)] Ω I J (aw_QL Q) := by
  refine aw_enter (by decide +kernel) rfl (Nat.le_of_ble_eq_true rfl) ?_
  show AW G MX8_instead (aw_nx Ω) d 0 0 (aw_QL Q) Ω I J 0 0 [.ref (aw_ad G 65), .int (nI q), .null, .null, .null, .null, .null] 0 []
  refine aw_iconst (v := nI 0) dX8_instead_0 (by decide) ?_
  refine aw_istore_n dX8_instead_1 (by decide) ?_
  refine aw_lv (lv2 := [.ref _, .int _, .int _, .null, .null, .null, .null]) rfl ?_
  exact lX8_instead1 hM hw hw6 hq hd hQ (w + 1) 0 J (by omega) (by omega) (in_0 hL)
def te_t (x : Int32) (v : Int64) : Int64 := if x = 0 then v else -v
def te_f (C : Nat → Nat → Int) (b : Nat → Int) (w : Nat) (x : Int32) (c : Nat) : Int64 := te_t x (Int64.ofInt (dt w (dt_rp C c b)))
def te_P (C : Nat → Nat → Int) (b : Nat → Int) (w n p : Nat) (mb : Nat → Nat) (x : Int32) (J0 J : aw_MJ) (c : Nat) : Prop := ce_L C b w J ∧ (∀ i, i < n → i < c → J p i = te_f C b w x i) ∧ (∀ l, l < 6 → J (p + 1) l = sp_wt mb (fun j => te_f C b w x (n + j)) (c - n) l) ∧ ∀ a, a ≠ 71 → a ≠ 72 → a ≠ 78 → a ≠ p → a ≠ p + 1 → J a = J0 a
theorem te_x {C : Nat → Nat → Int} {b : Nat → Int} {w n p : Nat} {mb : Nat → Nat} {x : Int32} {J0 J J2 : aw_MJ} {c : Nat} {v : Int64} (h : te_P C b w n p mb x J0 J c) (hp : 72 < p ∧ p < 77) (hL : ce_L C b w J2) (h2 : ∀ a, a ≠ 71 → a ≠ 72 → a ≠ 78 → J2 a = J a) (hc : c < n) (hv : v = te_f C b w x c) : te_P C b w n p mb x J0 (aw_up J2 p c v) (c + 1) := by
  obtain ⟨a1, a2, a3, a4⟩ := h
  refine ⟨⟨fun r q h5 h6 => ?_, fun r h5 => ?_⟩, fun i h5 h6 => ?_, fun l h5 => ?_, fun a b1 b2 b3 b4 b5 => ?_⟩
  · rw [aw_up_off _ _ (by omega)]; exact hL.1 r q h5 h6
  · rw [aw_up_off _ _ (by omega)]; exact hL.2 r h5
  · by_cases e : i = c
    · rw [e, aw_up_self, hv]
    · rw [aw_up_ne _ _ (Or.inr e), h2 p (by omega) (by omega) (by omega), a2 i h5 (by omega)]
  · rw [aw_up_off _ _ (by omega), h2 (p + 1) (by omega) (by omega) (by omega), a3 l h5, show c + 1 - n = c - n by omega]
  · rw [aw_up_off _ _ b4, h2 a b1 b2 b3, a4 a b1 b2 b3 b4 b5]
theorem te_y {C : Nat → Nat → Int} {b : Nat → Int} {w n p : Nat} {mb : Nat → Nat} {x : Int32} {J0 J J2 : aw_MJ} {c : Nat} {v : Int64} (h : te_P C b w n p mb x J0 J c) (hp : 72 < p ∧ p < 77) (hL : ce_L C b w J2) (h2 : ∀ a, a ≠ 71 → a ≠ 72 → a ≠ 78 → J2 a = J a) (hc : n ≤ c) (hv : v = te_f C b w x c) : te_P C b w n p mb x J0 (aw_up J2 (p + 1) (mb (c - n)) v) (c + 1) := by
  obtain ⟨a1, a2, a3, a4⟩ := h
  refine ⟨⟨fun r q h5 h6 => ?_, fun r h5 => ?_⟩, fun i h5 h6 => ?_, fun l h5 => ?_, fun a b1 b2 b3 b4 b5 => ?_⟩
  · rw [aw_up_off _ _ (by omega)]; exact hL.1 r q h5 h6
  · rw [aw_up_off _ _ (by omega)]; exact hL.2 r h5
  · rw [aw_up_off _ _ (by omega), h2 p (by omega) (by omega) (by omega), a2 i h5 (by omega)]
  · rw [show c + 1 - n = c - n + 1 by omega]
    show _ = if l = mb (c - n) then te_f C b w x (n + (c - n)) else _
    by_cases e : l = mb (c - n)
    · rw [if_pos e, e, aw_up_self, hv, show n + (c - n) = c by omega]
    · rw [if_neg e, aw_up_ne _ _ (Or.inr e), h2 (p + 1) (by omega) (by omega) (by omega), a3 l h5]
  · rw [aw_up_off _ _ b5, h2 a b1 b2 b3, a4 a b1 b2 b3 b4 b5]
theorem lX8_tells2 {G : aw_G} {d : Nat} {Ω : aw_O} {I : aw_MI} {Q : aw_O → aw_MI → aw_MJ → Prop} {n k p : Nat} {x : Int32} {mb : Nat → Nat} {C : Nat → Nat → Int} {b : Nat → Int} {J0 : aw_MJ} (hM : aw_model Ω 65) (hX : aw_is Ω p (.inr (1, 3))) (hY : aw_is Ω (p + 1) (.inr (1, 6))) (hp : 72 < p ∧ p < 77) (hn : I 65 0 = nI n) (hn3 : n ≤ 3) (hk : k ≤ n) (hw : I 65 13 = nI (n + k)) (hmb : ∀ j, j < k → I 77 j = nI (mb j) ∧ mb j < 6) (hd : 3 ≤ d) (hQ : ∀ J', (∀ i, i < n → J' p i = te_f C b (n + k) x i) → (∀ l, l < 6 → J' (p + 1) l = sp_wt mb (fun j => te_f C b (n + k) x (n + j)) k l) → (∀ a, a ≠ 71 → a ≠ 72 → a ≠ 78 → a ≠ p → a ≠ p + 1 → J' a = J0 a) → Q Ω I J') : ∀ (z c : Nat) (J : aw_MJ), c ≤ n + k → n + k - c < z → te_P C b (n + k) n p mb x J0 J c → AW G MX8_tells (aw_nx Ω) d 0 0 (aw_QV Q) Ω I J 0 0 [.ref (aw_ad G 65), .ref (aw_ad G p), .ref (aw_ad G (p + 1)), .int (nI k), .int x, .int (nI c), .null, .null] 24 [] := by
  intro z
  induction z with
  | zero =>
    intro c J h0 hz hP
    exact absurd hz (by omega)
  | succ z ih =>
    intro c J h0 hz hP
    refine aw_iload dX8_tells_24 rfl ?_
    refine aw_aload_n dX8_tells_26 rfl ?_
    refine aw_getIv (v := nI n) dX8_tells_27 flX8_7 hM.o hn ?_
    refine aw_iload_n dX8_tells_30 rfl ?_
    refine aw_iaddN dX8_tells_31 ?_
    refine aw_pc (pc2 := 32) rfl ?_
    refine aw_geN (t := 98) dX8_tells_32 (by decide) (by first | omega | exact (hmb _ (by omega)).2) (by first | omega | exact (hmb _ (by omega)).2) (fun h1 => ?_) (fun h1 => ?_)
    · skip
      have e9 : c = n + k := by omega
      rw [e9] at hP
      exact aw_vret dX8_tells_98 rfl (hQ J (fun i hi => hP.2.1 i hi (by omega)) (fun l hl => by rw [hP.2.2.1 l hl, show n + k - n = k by omega]) hP.2.2.2) (Nat.zero_le _) (Nat.zero_le _)
    · skip
      refine aw_iload dX8_tells_35 rfl ?_
      refine aw_if_eq (t := 50) dX8_tells_37 (by decide) (fun h2 => ?_) (fun h2 => ?_)
      · skip
        refine aw_aload_n dX8_tells_50 rfl ?_
        refine aw_iload dX8_tells_51 rfl ?_
        refine aw_cvL (As := [_]) (d' := d - 1) dX8_tells_53 lkX8_150 hM.o (by omega) rfl rfl (Nat.le_of_ble_eq_true rfl) ⟨Nat.le_refl _, Nat.le_refl _⟩ (tX8_instead (C := C) (b := b) hM hw (by omega) (by omega) hP.1 (by omega) ?_)
        · skip
          intro J2 r2 l2
          refine aw_lstore dX8_tells_56 (by decide) ?_
          refine aw_lv (lv2 := [.ref _, .ref _, .ref _, .int _, .int _, .int _, .long _, .null]) rfl ?_
          refine aw_iload dX8_tells_58 rfl ?_
          refine aw_aload_n dX8_tells_60 rfl ?_
          refine aw_getIv (v := nI n) dX8_tells_61 flX8_7 hM.o hn ?_
          refine aw_geN (t := 76) dX8_tells_64 (by decide) (by first | omega | exact (hmb _ (by omega)).2) (by first | omega | exact (hmb _ (by omega)).2) (fun h3 => ?_) (fun h3 => ?_)
          · skip
            refine aw_aload_n dX8_tells_76 rfl ?_
            refine aw_aload_n dX8_tells_77 rfl ?_
            refine aw_getR dX8_tells_78 flX8_48 hM.o hM.p21 ?_
            refine aw_iload dX8_tells_81 rfl ?_
            refine aw_aload_n dX8_tells_83 rfl ?_
            refine aw_pc (pc2 := 84) rfl ?_
            refine aw_getIv (v := nI n) dX8_tells_84 flX8_7 hM.o hn ?_
            refine aw_isubN dX8_tells_87 (by first | omega | exact (hmb _ (by omega)).2) ?_
            refine aw_ialdv (v := nI (mb (c - n))) dX8_tells_88 hM.s21 rfl (by first | omega | exact (hmb _ (by omega)).2) (hmb (c - n) (by omega)).1 ?_
            refine aw_lload dX8_tells_89 rfl ?_
            refine aw_last dX8_tells_91 hY rfl (by first | omega | exact (hmb _ (by omega)).2) rfl ?_
            refine aw_iincN dX8_tells_92 rfl (by decide) ?_
            refine aw_lv (lv2 := [.ref _, .ref _, .ref _, .int _, .int _, .int _, .long _, .null]) rfl ?_
            refine aw_pc (pc2 := 95) rfl ?_
            refine aw_goto (t := 24) dX8_tells_95 (by decide) ?_
            refine aw_frg 6 ?_
            exact ih (c + 1) _ (by omega) (by omega) (te_y hP hp l2 r2 (by omega) (by unfold te_f te_t; rw [if_pos h2]))
          · skip
            refine aw_aload_n dX8_tells_67 rfl ?_
            refine aw_iload dX8_tells_68 rfl ?_
            refine aw_lload dX8_tells_70 rfl ?_
            refine aw_last dX8_tells_72 hX rfl (by first | omega | exact (hmb _ (by omega)).2) rfl ?_
            refine aw_goto (t := 92) dX8_tells_73 (by decide) ?_
            refine aw_iincN dX8_tells_92 rfl (by decide) ?_
            refine aw_lv (lv2 := [.ref _, .ref _, .ref _, .int _, .int _, .int _, .long _, .null]) rfl ?_
            refine aw_goto (t := 24) dX8_tells_95 (by decide) ?_
            refine aw_frg 6 ?_
            exact ih (c + 1) _ (by omega) (by omega) (te_x hP hp l2 r2 (by omega) (by unfold te_f te_t; rw [if_pos h2]))
      · skip
        refine aw_aload_n dX8_tells_40 rfl ?_
        refine aw_iload dX8_tells_41 rfl ?_
        refine aw_cvL (As := [_]) (d' := d - 1) dX8_tells_43 lkX8_150 hM.o (by omega) rfl rfl (Nat.le_of_ble_eq_true rfl) ⟨Nat.le_refl _, Nat.le_refl _⟩ (tX8_instead (C := C) (b := b) hM hw (by omega) (by omega) hP.1 (by omega) ?_)
        · skip
          intro J2 r2 l2
          refine aw_lneg dX8_tells_46 ?_
          refine aw_goto (t := 56) dX8_tells_47 (by decide) ?_
          refine aw_lstore dX8_tells_56 (by decide) ?_
          refine aw_lv (lv2 := [.ref _, .ref _, .ref _, .int _, .int _, .int _, .long _, .null]) rfl ?_
          refine aw_iload dX8_tells_58 rfl ?_
          refine aw_aload_n dX8_tells_60 rfl ?_
          refine aw_getIv (v := nI n) dX8_tells_61 flX8_7 hM.o hn ?_
          refine aw_geN (t := 76) dX8_tells_64 (by decide) (by first | omega | exact (hmb _ (by omega)).2) (by first | omega | exact (hmb _ (by omega)).2) (fun h4 => ?_) (fun h4 => ?_)
          · skip
            refine aw_aload_n dX8_tells_76 rfl ?_
            refine aw_aload_n dX8_tells_77 rfl ?_
            refine aw_getR dX8_tells_78 flX8_48 hM.o hM.p21 ?_
            refine aw_iload dX8_tells_81 rfl ?_
            refine aw_aload_n dX8_tells_83 rfl ?_
            refine aw_pc (pc2 := 84) rfl ?_
            refine aw_getIv (v := nI n) dX8_tells_84 flX8_7 hM.o hn ?_
            refine aw_isubN dX8_tells_87 (by first | omega | exact (hmb _ (by omega)).2) ?_
            refine aw_ialdv (v := nI (mb (c - n))) dX8_tells_88 hM.s21 rfl (by first | omega | exact (hmb _ (by omega)).2) (hmb (c - n) (by omega)).1 ?_
            refine aw_lload dX8_tells_89 rfl ?_
            refine aw_last dX8_tells_91 hY rfl (by first | omega | exact (hmb _ (by omega)).2) rfl ?_
            refine aw_iincN dX8_tells_92 rfl (by decide) ?_
            refine aw_lv (lv2 := [.ref _, .ref _, .ref _, .int _, .int _, .int _, .long _, .null]) rfl ?_
            refine aw_pc (pc2 := 95) rfl ?_
            refine aw_goto (t := 24) dX8_tells_95 (by decide) ?_
            refine aw_frg 6 ?_
            exact ih (c + 1) _ (by omega) (by omega) (te_y hP hp l2 r2 (by omega) (by unfold te_f te_t; rw [if_neg h2]))
          · skip
            refine aw_aload_n dX8_tells_67 rfl ?_
            refine aw_iload dX8_tells_68 rfl ?_
            refine aw_lload dX8_tells_70 rfl ?_
            refine aw_last dX8_tells_72 hX rfl (by first | omega | exact (hmb _ (by omega)).2) rfl ?_
            refine aw_goto (t := 92) dX8_tells_73 (by decide) ?_
            refine aw_iincN dX8_tells_92 rfl (by decide) ?_
            refine aw_lv (lv2 := [.ref _, .ref _, .ref _, .int _, .int _, .int _, .long _, .null]) rfl ?_
            refine aw_goto (t := 24) dX8_tells_95 (by decide) ?_
            refine aw_frg 6 ?_
            exact ih (c + 1) _ (by omega) (by omega) (te_x hP hp l2 r2 (by omega) (by unfold te_f te_t; rw [if_neg h2]))
theorem lX8_tells1 {G : aw_G} {d : Nat} {Ω : aw_O} {I : aw_MI} {J : aw_MJ} {Q : aw_O → aw_MI → aw_MJ → Prop} {n k p : Nat} {x : Int32} {mb : Nat → Nat} {C : Nat → Nat → Int} {b : Nat → Int} (hM : aw_model Ω 65) (hX : aw_is Ω p (.inr (1, 3))) (hY : aw_is Ω (p + 1) (.inr (1, 6))) (hp : 72 < p ∧ p < 77) (hn : I 65 0 = nI n) (hn3 : n ≤ 3) (hk : k ≤ n) (hw : I 65 13 = nI (n + k)) (hmb : ∀ j, j < k → I 77 j = nI (mb j) ∧ mb j < 6) (hd : 3 ≤ d) (hL : ce_L C b (n + k) J) (hQ : ∀ J', (∀ i, i < n → J' p i = te_f C b (n + k) x i) → (∀ l, l < 6 → J' (p + 1) l = sp_wt mb (fun j => te_f C b (n + k) x (n + j)) k l) → (∀ a, a ≠ 71 → a ≠ 72 → a ≠ 78 → a ≠ p → a ≠ p + 1 → J' a = J a) → Q Ω I J') : ∀ (z i : Nat), i ≤ 6 → 6 - i < z → AW G MX8_tells (aw_nx Ω) d 0 0 (aw_QV Q) Ω I (aw_wr J (p + 1) 0 i (fun _ => 0)) 0 0 [.ref (aw_ad G 65), .ref (aw_ad G p), .ref (aw_ad G (p + 1)), .int (nI k), .int x, .int (nI i), .null, .null] 3 [] := by
  intro z
  induction z with
  | zero =>
    intro i h0 hz
    exact absurd hz (by omega)
  | succ z ih =>
    intro i h0 hz
    refine aw_iload dX8_tells_3 rfl ?_
    refine aw_bipush (v := nI 6) dX8_tells_5 (by decide) ?_
    refine aw_geN (t := 21) dX8_tells_7 (by decide) (by omega) (by omega) (fun h1 => ?_) (fun h1 => ?_)
    · skip
      refine aw_iconst (v := nI 0) dX8_tells_21 (by decide) ?_
      refine aw_istore dX8_tells_22 (by decide) ?_
      refine aw_lv (lv2 := [.ref _, .ref _, .ref _, .int _, .int _, .int _, .null, .null]) rfl ?_
      have e9 : i = 6 := by omega
      rw [e9]
      exact lX8_tells2 (J0 := J) hM hX hY hp hn hn3 hk hw hmb hd hQ (n + k + 1) 0 _ (by omega) (by omega) ⟨⟨fun r q h5 h6 => by rw [aw_wr_off _ _ (by omega)]; exact hL.1 r q h5 h6, fun r h5 => by rw [aw_wr_off _ _ (by omega)]; exact hL.2 r h5⟩, fun i _ h6 => absurd h6 (by omega), fun l hl => by have q9 := aw_wr_in J (a := p + 1) (lo := 0) (n := 6) (j := l) (fun _ => (0 : Int64)) hl; rw [Nat.zero_add] at q9; rw [q9, Nat.zero_sub]; rfl, fun a _ _ _ _ b5 => aw_wr_off _ _ b5⟩
    · skip
      refine aw_aload_n dX8_tells_10 rfl ?_
      refine aw_iload dX8_tells_11 rfl ?_
      refine aw_lconst (v := 0) dX8_tells_13 (by decide) ?_
      refine aw_last dX8_tells_14 hY rfl (by omega) rfl ?_
      refine aw_iincN dX8_tells_15 rfl (by decide) ?_
      refine aw_lv (lv2 := [.ref _, .ref _, .ref _, .int _, .int _, .int _, .null, .null]) rfl ?_
      refine aw_pc (pc2 := 18) rfl ?_
      refine aw_goto (t := 3) dX8_tells_18 (by decide) ?_
      refine aw_toM rfl (aw_wr_s0 J (p + 1) i (fun _ => 0)) ?_
      exact ih (i + 1) (by omega) (by omega)
theorem tX8_tells {G : aw_G} {d : Nat} {Ω : aw_O} {I : aw_MI} {J : aw_MJ} {Q : aw_O → aw_MI → aw_MJ → Prop} {n k p : Nat} {x : Int32} {mb : Nat → Nat} {C : Nat → Nat → Int} {b : Nat → Int} (hM : aw_model Ω 65) (hX : aw_is Ω p (.inr (1, 3))) (hY : aw_is Ω (p + 1) (.inr (1, 6))) (hp : 72 < p ∧ p < 77) (hn : I 65 0 = nI n) (hn3 : n ≤ 3) (hk : k ≤ n) (hw : I 65 13 = nI (n + k)) (hmb : ∀ j, j < k → I 77 j = nI (mb j) ∧ mb j < 6) (hd : 3 ≤ d) (hL : ce_L C b (n + k) J) (hQ : ∀ J', (∀ i, i < n → J' p i = te_f C b (n + k) x i) → (∀ l, l < 6 → J' (p + 1) l = sp_wt mb (fun j => te_f C b (n + k) x (n + j)) k l) → (∀ a, a ≠ 71 → a ≠ 72 → a ≠ 78 → a ≠ p → a ≠ p + 1 → J' a = J a) → Q Ω I J') : aw_Call G MX8_tells d 0 0 [.ref (aw_ad G 65), .ref (aw_ad G p), .ref (aw_ad G (p + 1)), .int (nI k), .int x] Ω I J (aw_QV Q) := by
  refine aw_enter (by decide +kernel) rfl (Nat.le_of_ble_eq_true rfl) ?_
  show AW G MX8_tells (aw_nx Ω) d 0 0 (aw_QV Q) Ω I J 0 0 [.ref (aw_ad G 65), .ref (aw_ad G p), .ref (aw_ad G (p + 1)), .int (nI k), .int x, .null, .null, .null] 0 []
  refine aw_iconst (v := nI 0) dX8_tells_0 (by decide) ?_
  refine aw_istore dX8_tells_1 (by decide) ?_
  refine aw_lv (lv2 := [.ref _, .ref _, .ref _, .int _, .int _, .int _, .null, .null]) rfl ?_
  refine aw_toM rfl (aw_wr_0 J (p + 1) 0 (fun _ => 0)) ?_
  exact lX8_tells1 hM hX hY hp hn hn3 hk hw hmb hd hL hQ 7 0 (by omega) (by omega)

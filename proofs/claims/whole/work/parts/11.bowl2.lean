/-! THE BOWL's methods, with loops -/
/-- a cell's first places hold one number -/
def aw_fill {α : Type} (I : Nat → Nat → α) (a n : Nat) (v : α) : Nat → Nat → α := fun a' k => if a' = a ∧ k < n then v else I a' k
theorem aw_fill_0 {α : Type} (I : Nat → Nat → α) (a : Nat) (v : α) : I = aw_fill I a 0 v := by
  funext a' k
  simp [aw_fill]
theorem aw_fill_s {α : Type} (I : Nat → Nat → α) (a n : Nat) (v : α) : aw_up (aw_fill I a n v) a n v = aw_fill I a (n + 1) v := by
  funext a' k
  unfold aw_up aw_fill
  by_cases h : a' = a
  · by_cases h2 : k = n
    · subst h2
      simp [h]
    · simp only [h, h2, true_and, and_false, if_false]
      by_cases h3 : k < n
      · simp [h3, Nat.lt_succ_of_lt h3]
      · rw [if_neg h3, if_neg (by omega)]
  · simp [h]
def sp_det2 (q : Nat → Int32) : Int32 := q 0 * q 4 - q 1 * q 1
def sp_det3 (q : Nat → Int32) : Int32 := q 8 * sp_det2 q - q 5 * (q 0 * q 5 - q 1 * q 2) + q 2 * (q 1 * q 5 - q 2 * q 4)
def sp_minor (q : Nat → Int32) (k : Nat) : Int32 := if 3 ≤ k then sp_det3 q else if k = 1 then q 0 else sp_det2 q
def sp_hl (q : Nat → Int32) : Nat → Nat → Int32
  | _, 0 => nI 1
  | k, z + 1 => if 0 < sp_minor q k then sp_hl q (k + 1) z else nI 0
def sp_cnt (f : Nat → Int32) : Nat → Int32
  | 0 => nI 0
  | k + 1 => sp_cnt f k + sp_on (f k)
def sp_left (bd : Int32) (bl : Int64) (row : Nat → Int32) (x : Nat → Int64) : Nat → Int64
  | 0 => bd.toInt64 * bl
  | i + 1 => sp_left bd bl row x i - (row i).toInt64 * x i
def sp_sq (p : Nat → Int32) : Nat → Int64
  | 0 => 0
  | i + 1 => sp_sq p i + (p i * p i).toInt64
theorem sp_cnt_s {f : Nat → Int32} {i : Nat} : sp_on (f i) = 0 → sp_cnt f i + nI 0 = sp_cnt f (i + 1) := by
  intro h
  show _ = sp_cnt f i + sp_on (f i)
  rw [h]
  rfl
theorem sp_cnt_t {f : Nat → Int32} {i : Nat} : ¬ sp_on (f i) = 0 → sp_cnt f i + nI 1 = sp_cnt f (i + 1) := by
  intro h
  show _ = sp_cnt f i + sp_on (f i)
  rw [sp_on0, Classical.not_not] at h
  rw [sp_on, if_pos h]

theorem lJ7_fillI {G : aw_G} {d : Nat} {Ω : aw_O} {I : aw_MI} {J : aw_MJ} {Q : aw_O → aw_MI → aw_MJ → Prop} {a e : Nat} {v : Int32} (hA : aw_is Ω a (.inr (0, e))) (he : e ≤ 1000) (hQ : Q Ω (aw_fill I a e v) J) : ∀ (z i : Nat), i ≤ e → e - i < z → AW G MJ7_fill_53178 (aw_nx Ω) d 0 0 (aw_QV Q) Ω (aw_fill I a i v) J 0 0 [.ref (aw_ad G a), .int v, .int (nI i), .int (nI e)] 5 [] := by
  intro z
  induction z with
  | zero =>
    intro i h0 hz
    exact absurd hz (by omega)
  | succ z ih =>
    intro i h0 hz
    refine aw_iload_n dJ7_fill_53178_5 rfl ?_
    refine aw_iload_n dJ7_fill_53178_6 rfl ?_
    refine aw_geN (t := 20) dJ7_fill_53178_7 (by decide) (by omega) (by omega) (fun h1 => ?_) (fun h1 => ?_)
    · skip
      have e1 : i = e := by omega
      subst e1
      exact aw_vret dJ7_fill_53178_20 rfl (hQ) (Nat.zero_le _) (Nat.zero_le _)
    · skip
      refine aw_aload_n dJ7_fill_53178_10 rfl ?_
      refine aw_iload_n dJ7_fill_53178_11 rfl ?_
      refine aw_iload_n dJ7_fill_53178_12 rfl ?_
      refine aw_iast dJ7_fill_53178_13 hA rfl (by omega) rfl ?_ he
      refine aw_iincN dJ7_fill_53178_14 rfl (by decide) ?_
      refine aw_lv (lv2 := [.ref _, .int _, .int _, .int _]) rfl ?_
      refine aw_pc (pc2 := 17) rfl ?_
      refine aw_goto (t := 5) dJ7_fill_53178_17 (by decide) ?_
      rw [aw_fill_s]
      exact ih (i + 1) (by omega) (by omega)
theorem lJ7_fillJ {G : aw_G} {d : Nat} {Ω : aw_O} {I : aw_MI} {J : aw_MJ} {Q : aw_O → aw_MI → aw_MJ → Prop} {a e : Nat} {v : Int64} (hA : aw_is Ω a (.inr (1, e))) (he : e ≤ 1000) (hQ : Q Ω I (aw_fill J a e v)) : ∀ (z i : Nat), i ≤ e → e - i < z → AW G MJ7_fill_d0a16 (aw_nx Ω) d 0 0 (aw_QV Q) Ω I (aw_fill J a i v) 0 0 [.ref (aw_ad G a), .long v, .null, .int (nI i), .int (nI e)] 6 [] := by
  intro z
  induction z with
  | zero =>
    intro i h0 hz
    exact absurd hz (by omega)
  | succ z ih =>
    intro i h0 hz
    refine aw_iload_n dJ7_fill_d0a16_6 rfl ?_
    refine aw_iload dJ7_fill_d0a16_7 rfl ?_
    refine aw_geN (t := 22) dJ7_fill_d0a16_9 (by decide) (by omega) (by omega) (fun h1 => ?_) (fun h1 => ?_)
    · skip
      have e1 : i = e := by omega
      subst e1
      exact aw_vret dJ7_fill_d0a16_22 rfl (hQ) (Nat.zero_le _) (Nat.zero_le _)
    · skip
      refine aw_aload_n dJ7_fill_d0a16_12 rfl ?_
      refine aw_iload_n dJ7_fill_d0a16_13 rfl ?_
      refine aw_lload_n dJ7_fill_d0a16_14 rfl ?_
      refine aw_last dJ7_fill_d0a16_15 hA rfl (by omega) rfl ?_ he
      refine aw_iincN dJ7_fill_d0a16_16 rfl (by decide) ?_
      refine aw_lv (lv2 := [.ref _, .long _, .null, .int _, .int _]) rfl ?_
      refine aw_pc (pc2 := 19) rfl ?_
      refine aw_goto (t := 6) dJ7_fill_d0a16_19 (by decide) ?_
      rw [aw_fill_s]
      exact ih (i + 1) (by omega) (by omega)
theorem tJ7_fill_53178 {G : aw_G} {d : Nat} {Ω : aw_O} {I : aw_MI} {J : aw_MJ} {Q : aw_O → aw_MI → aw_MJ → Prop} {a e : Nat} {v : Int32} (hA : aw_is Ω a (.inr (0, e))) (he : e ≤ 1000) (hQ : Q Ω (aw_fill I a e v) J) : aw_Call G MJ7_fill_53178 d 0 0 [.ref (aw_ad G a), .int v] Ω I J (aw_QV Q) := by
  refine aw_enter (by decide +kernel) rfl (Nat.le_of_ble_eq_true rfl) ?_
  show AW G MJ7_fill_53178 (aw_nx Ω) d 0 0 (aw_QV Q) Ω I J 0 0 [.ref (aw_ad G a), .int v, .null, .null] 0 []
  refine aw_iconst (v := nI 0) dJ7_fill_53178_0 (by decide) ?_
  refine aw_istore_n dJ7_fill_53178_1 (by decide) ?_
  refine aw_lv (lv2 := [.ref _, .int _, .int _, .null]) rfl ?_
  refine aw_aload_n dJ7_fill_53178_2 rfl ?_
  refine aw_alen dJ7_fill_53178_3 hA ?_
  refine aw_istore_n dJ7_fill_53178_4 (by decide) ?_
  refine aw_lv (lv2 := [.ref _, .int _, .int _, .int _]) rfl ?_
  refine aw_toM (aw_fill_0 I a v) rfl ?_
  exact lJ7_fillI hA he hQ (e + 1) 0 (by omega) (by omega)
theorem tJ7_fill_d0a16 {G : aw_G} {d : Nat} {Ω : aw_O} {I : aw_MI} {J : aw_MJ} {Q : aw_O → aw_MI → aw_MJ → Prop} {a e : Nat} {v : Int64} (hA : aw_is Ω a (.inr (1, e))) (he : e ≤ 1000) (hQ : Q Ω I (aw_fill J a e v)) : aw_Call G MJ7_fill_d0a16 d 0 0 [.ref (aw_ad G a), .long v] Ω I J (aw_QV Q) := by
  refine aw_enter (by decide +kernel) rfl (Nat.le_of_ble_eq_true rfl) ?_
  show AW G MJ7_fill_d0a16 (aw_nx Ω) d 0 0 (aw_QV Q) Ω I J 0 0 [.ref (aw_ad G a), .long v, .null, .null, .null] 0 []
  refine aw_iconst (v := nI 0) dJ7_fill_d0a16_0 (by decide) ?_
  refine aw_istore_n dJ7_fill_d0a16_1 (by decide) ?_
  refine aw_lv (lv2 := [.ref _, .long _, .null, .int _, .null]) rfl ?_
  refine aw_aload_n dJ7_fill_d0a16_2 rfl ?_
  refine aw_alen dJ7_fill_d0a16_3 hA ?_
  refine aw_istore dJ7_fill_d0a16_4 (by decide) ?_
  refine aw_lv (lv2 := [.ref _, .long _, .null, .int _, .int _]) rfl ?_
  refine aw_toM rfl (aw_fill_0 J a v) ?_
  exact lJ7_fillJ hA he hQ (e + 1) 0 (by omega) (by omega)
theorem tX1_putBend {G : aw_G} {d : Nat} {Ω : aw_O} {I : aw_MI} {J : aw_MJ} {Q : aw_O → aw_MI → aw_MJ → Prop} {b i j : Nat} {v : Int32} (hB : aw_bowl Ω b) (hi : i < 3) (hj : j < 3) (hQ : Q Ω (aw_up (aw_up I (b + 1) (i * 3 + j) v) (b + 1) (j * 3 + i) v) J) : aw_Call G MX1_putBend d 0 0 [.ref (aw_ad G b), .int (nI i), .int (nI j), .int v] Ω I J (aw_QV Q) := by
  refine aw_enter (by decide +kernel) rfl (Nat.le_of_ble_eq_true rfl) ?_
  show AW G MX1_putBend (aw_nx Ω) d 0 0 (aw_QV Q) Ω I J 0 0 [.ref (aw_ad G b), .int (nI i), .int (nI j), .int v] 0 []
  refine aw_aload_n dX1_putBend_0 rfl ?_
  refine aw_getR dX1_putBend_1 flX1_15 hB.o hB.p3 ?_
  refine aw_iload_n dX1_putBend_4 rfl ?_
  refine aw_iconst (v := nI 3) dX1_putBend_5 (by decide) ?_
  refine aw_imulN dX1_putBend_6 ?_
  refine aw_pc (pc2 := 7) rfl ?_
  refine aw_iload_n dX1_putBend_7 rfl ?_
  refine aw_iaddN dX1_putBend_8 ?_
  refine aw_iload_n dX1_putBend_9 rfl ?_
  refine aw_iast dX1_putBend_10 hB.s3 rfl (by omega) rfl ?_
  refine aw_aload_n dX1_putBend_11 rfl ?_
  refine aw_getR dX1_putBend_12 flX1_15 hB.o hB.p3 ?_
  refine aw_pc (pc2 := 15) rfl ?_
  refine aw_iload_n dX1_putBend_15 rfl ?_
  refine aw_iconst (v := nI 3) dX1_putBend_16 (by decide) ?_
  refine aw_imulN dX1_putBend_17 ?_
  refine aw_iload_n dX1_putBend_18 rfl ?_
  refine aw_iaddN dX1_putBend_19 ?_
  refine aw_iload_n dX1_putBend_20 rfl ?_
  refine aw_pc (pc2 := 21) rfl ?_
  refine aw_iast dX1_putBend_21 hB.s3 rfl (by omega) rfl ?_
  exact aw_vret dX1_putBend_22 rfl (hQ) (Nat.zero_le _) (Nat.zero_le _)
theorem lX1_linesOn {G : aw_G} {d : Nat} {Ω : aw_O} {I : aw_MI} {J : aw_MJ} {Q : Int32 → aw_O → aw_MI → aw_MJ → Prop} {b e : Nat} (hB : aw_bowl Ω b) (he : I b 2 = nI e) (h6 : e ≤ 6) (hd : 1 ≤ d) (hQ : Q (sp_cnt (I (b + 3)) e) Ω I J) : ∀ (z i : Nat), i ≤ e → e - i < z → AW G MX1_linesOn (aw_nx Ω) d 0 0 (aw_QI Q) Ω I J 0 0 [.ref (aw_ad G b), .int (sp_cnt (I (b + 3)) i), .int (nI i)] 4 [] := by
  intro z
  induction z with
  | zero =>
    intro i h0 hz
    exact absurd hz (by omega)
  | succ z ih =>
    intro i h0 hz
    refine aw_iload_n dX1_linesOn_4 rfl ?_
    refine aw_aload_n dX1_linesOn_5 rfl ?_
    refine aw_getIv (v := nI e) dX1_linesOn_6 flX1_37 hB.o he ?_
    refine aw_geN (t := 34) dX1_linesOn_9 (by decide) (by omega) (by omega) (fun h1 => ?_) (fun h1 => ?_)
    · skip
      refine aw_iload_n dX1_linesOn_34 rfl ?_
      have e1 : i = e := by omega
      subst e1
      exact aw_iret dX1_linesOn_35 rfl (hQ) (Nat.zero_le _) (Nat.zero_le _)
    · skip
      refine aw_iload_n dX1_linesOn_12 rfl ?_
      refine aw_aload_n dX1_linesOn_13 rfl ?_
      refine aw_iload_n dX1_linesOn_14 rfl ?_
      refine aw_cvI (As := [_]) (d' := d - 1) dX1_linesOn_15 lkX1_63 hB.o (by omega) rfl rfl (Nat.le_of_ble_eq_true rfl) ⟨Nat.le_refl _, Nat.le_refl _⟩ (tX1_isOn hB (by omega) ?_)
      refine aw_if_eq (t := 25) dX1_linesOn_18 (by decide) (fun h2 => ?_) (fun h2 => ?_)
      · skip
        refine aw_iconst (v := nI 0) dX1_linesOn_25 (by decide) ?_
        refine aw_iadd dX1_linesOn_26 ?_
        refine aw_toI (by first | exact sp_cnt_s h2 | exact sp_cnt_t h2) ?_
        refine aw_istore_n dX1_linesOn_27 (by decide) ?_
        refine aw_lv (lv2 := [.ref _, .int _, .int _]) rfl ?_
        refine aw_iincN dX1_linesOn_28 rfl (by decide) ?_
        refine aw_lv (lv2 := [.ref _, .int _, .int _]) rfl ?_
        refine aw_goto (t := 4) dX1_linesOn_31 (by decide) ?_
        exact ih (i + 1) (by omega) (by omega)
      · skip
        refine aw_iconst (v := nI 1) dX1_linesOn_21 (by decide) ?_
        refine aw_goto (t := 26) dX1_linesOn_22 (by decide) ?_
        refine aw_iadd dX1_linesOn_26 ?_
        refine aw_toI (by first | exact sp_cnt_s h2 | exact sp_cnt_t h2) ?_
        refine aw_istore_n dX1_linesOn_27 (by decide) ?_
        refine aw_lv (lv2 := [.ref _, .int _, .int _]) rfl ?_
        refine aw_iincN dX1_linesOn_28 rfl (by decide) ?_
        refine aw_lv (lv2 := [.ref _, .int _, .int _]) rfl ?_
        refine aw_goto (t := 4) dX1_linesOn_31 (by decide) ?_
        exact ih (i + 1) (by omega) (by omega)
theorem tX1_linesOn {G : aw_G} {d : Nat} {Ω : aw_O} {I : aw_MI} {J : aw_MJ} {Q : Int32 → aw_O → aw_MI → aw_MJ → Prop} {b e : Nat} (hB : aw_bowl Ω b) (he : I b 2 = nI e) (h6 : e ≤ 6) (hd : 1 ≤ d) (hQ : Q (sp_cnt (I (b + 3)) e) Ω I J) : aw_Call G MX1_linesOn d 0 0 [.ref (aw_ad G b)] Ω I J (aw_QI Q) := by
  refine aw_enter (by decide +kernel) rfl (Nat.le_of_ble_eq_true rfl) ?_
  show AW G MX1_linesOn (aw_nx Ω) d 0 0 (aw_QI Q) Ω I J 0 0 [.ref (aw_ad G b), .null, .null] 0 []
  refine aw_iconst (v := nI 0) dX1_linesOn_0 (by decide) ?_
  refine aw_istore_n dX1_linesOn_1 (by decide) ?_
  refine aw_lv (lv2 := [.ref _, .int _, .null]) rfl ?_
  refine aw_iconst (v := nI 0) dX1_linesOn_2 (by decide) ?_
  refine aw_istore_n dX1_linesOn_3 (by decide) ?_
  refine aw_lv (lv2 := [.ref _, .int _, .int _]) rfl ?_
  exact lX1_linesOn hB he h6 hd hQ (e + 1) 0 (by omega) (by omega)
theorem tX1_determinant {G : aw_G} {d : Nat} {Ω : aw_O} {I : aw_MI} {J : aw_MJ} {Q : Int32 → aw_O → aw_MI → aw_MJ → Prop} {b k : Nat} (hB : aw_bowl Ω b) (hk : k ≤ 3) (hd : 1 ≤ d) (hQ : Q (sp_minor (I (b + 1)) k) Ω I J) : aw_Call G MX1_determinant d 0 0 [.ref (aw_ad G b), .int (nI k)] Ω I J (aw_QI Q) := by
  refine aw_enter (by decide +kernel) rfl (Nat.le_of_ble_eq_true rfl) ?_
  show AW G MX1_determinant (aw_nx Ω) d 0 0 (aw_QI Q) Ω I J 0 0 [.ref (aw_ad G b), .int (nI k), .null, .null] 0 []
  refine aw_aload_n dX1_determinant_0 rfl ?_
  refine aw_iconst (v := nI 0) dX1_determinant_1 (by decide) ?_
  refine aw_iconst (v := nI 0) dX1_determinant_2 (by decide) ?_
  refine aw_cvI (As := [_, _]) (d' := d - 1) dX1_determinant_3 lkX1_67 hB.o (by omega) rfl rfl (Nat.le_of_ble_eq_true rfl) ⟨Nat.le_refl _, Nat.le_refl _⟩ (tX1_bendOf hB (by decide) (by decide) ?_)
  refine aw_istore_n dX1_determinant_6 (by decide) ?_
  refine aw_lv (lv2 := [.ref _, .int _, .int _, .null]) rfl ?_
  refine aw_pc (pc2 := 7) rfl ?_
  refine aw_iload_n dX1_determinant_7 rfl ?_
  refine aw_aload_n dX1_determinant_8 rfl ?_
  refine aw_iconst (v := nI 1) dX1_determinant_9 (by decide) ?_
  refine aw_iconst (v := nI 1) dX1_determinant_10 (by decide) ?_
  refine aw_cvI (As := [_, _]) (d' := d - 1) dX1_determinant_11 lkX1_67 hB.o (by omega) rfl rfl (Nat.le_of_ble_eq_true rfl) ⟨Nat.le_refl _, Nat.le_refl _⟩ (tX1_bendOf hB (by decide) (by decide) ?_)
  refine aw_imul dX1_determinant_14 ?_
  refine aw_pc (pc2 := 15) rfl ?_
  refine aw_aload_n dX1_determinant_15 rfl ?_
  refine aw_iconst (v := nI 0) dX1_determinant_16 (by decide) ?_
  refine aw_iconst (v := nI 1) dX1_determinant_17 (by decide) ?_
  refine aw_cvI (As := [_, _]) (d' := d - 1) dX1_determinant_18 lkX1_67 hB.o (by omega) rfl rfl (Nat.le_of_ble_eq_true rfl) ⟨Nat.le_refl _, Nat.le_refl _⟩ (tX1_bendOf hB (by decide) (by decide) ?_)
  refine aw_aload_n dX1_determinant_21 rfl ?_
  refine aw_iconst (v := nI 0) dX1_determinant_22 (by decide) ?_
  refine aw_pc (pc2 := 23) rfl ?_
  refine aw_iconst (v := nI 1) dX1_determinant_23 (by decide) ?_
  refine aw_cvI (As := [_, _]) (d' := d - 1) dX1_determinant_24 lkX1_67 hB.o (by omega) rfl rfl (Nat.le_of_ble_eq_true rfl) ⟨Nat.le_refl _, Nat.le_refl _⟩ (tX1_bendOf hB (by decide) (by decide) ?_)
  refine aw_imul dX1_determinant_27 ?_
  refine aw_isub dX1_determinant_28 ?_
  refine aw_istore_n dX1_determinant_29 (by decide) ?_
  refine aw_lv (lv2 := [.ref _, .int _, .int _, .int _]) rfl ?_
  refine aw_iload_n dX1_determinant_30 rfl ?_
  refine aw_pc (pc2 := 31) rfl ?_
  refine aw_iconst (v := nI 3) dX1_determinant_31 (by decide) ?_
  refine aw_geN (t := 46) dX1_determinant_32 (by decide) (by omega) (by omega) (fun h1 => ?_) (fun h1 => ?_)
  · skip
    refine aw_aload_n dX1_determinant_46 rfl ?_
    refine aw_iconst (v := nI 2) dX1_determinant_47 (by decide) ?_
    refine aw_iconst (v := nI 2) dX1_determinant_48 (by decide) ?_
    refine aw_cvI (As := [_, _]) (d' := d - 1) dX1_determinant_49 lkX1_67 hB.o (by omega) rfl rfl (Nat.le_of_ble_eq_true rfl) ⟨Nat.le_refl _, Nat.le_refl _⟩ (tX1_bendOf hB (by decide) (by decide) ?_)
    refine aw_iload_n dX1_determinant_52 rfl ?_
    refine aw_pc (pc2 := 53) rfl ?_
    refine aw_imul dX1_determinant_53 ?_
    refine aw_aload_n dX1_determinant_54 rfl ?_
    refine aw_iconst (v := nI 1) dX1_determinant_55 (by decide) ?_
    refine aw_iconst (v := nI 2) dX1_determinant_56 (by decide) ?_
    refine aw_cvI (As := [_, _]) (d' := d - 1) dX1_determinant_57 lkX1_67 hB.o (by omega) rfl rfl (Nat.le_of_ble_eq_true rfl) ⟨Nat.le_refl _, Nat.le_refl _⟩ (tX1_bendOf hB (by decide) (by decide) ?_)
    refine aw_iload_n dX1_determinant_60 rfl ?_
    refine aw_pc (pc2 := 61) rfl ?_
    refine aw_aload_n dX1_determinant_61 rfl ?_
    refine aw_iconst (v := nI 1) dX1_determinant_62 (by decide) ?_
    refine aw_iconst (v := nI 2) dX1_determinant_63 (by decide) ?_
    refine aw_cvI (As := [_, _]) (d' := d - 1) dX1_determinant_64 lkX1_67 hB.o (by omega) rfl rfl (Nat.le_of_ble_eq_true rfl) ⟨Nat.le_refl _, Nat.le_refl _⟩ (tX1_bendOf hB (by decide) (by decide) ?_)
    refine aw_imul dX1_determinant_67 ?_
    refine aw_aload_n dX1_determinant_68 rfl ?_
    refine aw_pc (pc2 := 69) rfl ?_
    refine aw_iconst (v := nI 0) dX1_determinant_69 (by decide) ?_
    refine aw_iconst (v := nI 1) dX1_determinant_70 (by decide) ?_
    refine aw_cvI (As := [_, _]) (d' := d - 1) dX1_determinant_71 lkX1_67 hB.o (by omega) rfl rfl (Nat.le_of_ble_eq_true rfl) ⟨Nat.le_refl _, Nat.le_refl _⟩ (tX1_bendOf hB (by decide) (by decide) ?_)
    refine aw_aload_n dX1_determinant_74 rfl ?_
    refine aw_iconst (v := nI 0) dX1_determinant_75 (by decide) ?_
    refine aw_iconst (v := nI 2) dX1_determinant_76 (by decide) ?_
    refine aw_pc (pc2 := 77) rfl ?_
    refine aw_cvI (As := [_, _]) (d' := d - 1) dX1_determinant_77 lkX1_67 hB.o (by omega) rfl rfl (Nat.le_of_ble_eq_true rfl) ⟨Nat.le_refl _, Nat.le_refl _⟩ (tX1_bendOf hB (by decide) (by decide) ?_)
    refine aw_imul dX1_determinant_80 ?_
    refine aw_isub dX1_determinant_81 ?_
    refine aw_imul dX1_determinant_82 ?_
    refine aw_isub dX1_determinant_83 ?_
    refine aw_aload_n dX1_determinant_84 rfl ?_
    refine aw_pc (pc2 := 85) rfl ?_
    refine aw_iconst (v := nI 0) dX1_determinant_85 (by decide) ?_
    refine aw_iconst (v := nI 2) dX1_determinant_86 (by decide) ?_
    refine aw_cvI (As := [_, _]) (d' := d - 1) dX1_determinant_87 lkX1_67 hB.o (by omega) rfl rfl (Nat.le_of_ble_eq_true rfl) ⟨Nat.le_refl _, Nat.le_refl _⟩ (tX1_bendOf hB (by decide) (by decide) ?_)
    refine aw_aload_n dX1_determinant_90 rfl ?_
    refine aw_iconst (v := nI 0) dX1_determinant_91 (by decide) ?_
    refine aw_iconst (v := nI 1) dX1_determinant_92 (by decide) ?_
    refine aw_pc (pc2 := 93) rfl ?_
    refine aw_cvI (As := [_, _]) (d' := d - 1) dX1_determinant_93 lkX1_67 hB.o (by omega) rfl rfl (Nat.le_of_ble_eq_true rfl) ⟨Nat.le_refl _, Nat.le_refl _⟩ (tX1_bendOf hB (by decide) (by decide) ?_)
    refine aw_aload_n dX1_determinant_96 rfl ?_
    refine aw_iconst (v := nI 1) dX1_determinant_97 (by decide) ?_
    refine aw_iconst (v := nI 2) dX1_determinant_98 (by decide) ?_
    refine aw_cvI (As := [_, _]) (d' := d - 1) dX1_determinant_99 lkX1_67 hB.o (by omega) rfl rfl (Nat.le_of_ble_eq_true rfl) ⟨Nat.le_refl _, Nat.le_refl _⟩ (tX1_bendOf hB (by decide) (by decide) ?_)
    refine aw_imul dX1_determinant_102 ?_
    refine aw_pc (pc2 := 103) rfl ?_
    refine aw_aload_n dX1_determinant_103 rfl ?_
    refine aw_iconst (v := nI 0) dX1_determinant_104 (by decide) ?_
    refine aw_iconst (v := nI 2) dX1_determinant_105 (by decide) ?_
    refine aw_cvI (As := [_, _]) (d' := d - 1) dX1_determinant_106 lkX1_67 hB.o (by omega) rfl rfl (Nat.le_of_ble_eq_true rfl) ⟨Nat.le_refl _, Nat.le_refl _⟩ (tX1_bendOf hB (by decide) (by decide) ?_)
    refine aw_aload_n dX1_determinant_109 rfl ?_
    refine aw_iconst (v := nI 1) dX1_determinant_110 (by decide) ?_
    refine aw_pc (pc2 := 111) rfl ?_
    refine aw_iconst (v := nI 1) dX1_determinant_111 (by decide) ?_
    refine aw_cvI (As := [_, _]) (d' := d - 1) dX1_determinant_112 lkX1_67 hB.o (by omega) rfl rfl (Nat.le_of_ble_eq_true rfl) ⟨Nat.le_refl _, Nat.le_refl _⟩ (tX1_bendOf hB (by decide) (by decide) ?_)
    refine aw_imul dX1_determinant_115 ?_
    refine aw_isub dX1_determinant_116 ?_
    refine aw_imul dX1_determinant_117 ?_
    refine aw_iadd dX1_determinant_118 ?_
    refine aw_pc (pc2 := 119) rfl ?_
    exact aw_iret dX1_determinant_119 rfl (by rw [sp_minor] at hQ; rw [if_pos h1] at hQ; exact hQ) (Nat.zero_le _) (Nat.zero_le _)
  · skip
    refine aw_iload_n dX1_determinant_35 rfl ?_
    refine aw_iconst (v := nI 1) dX1_determinant_36 (by decide) ?_
    refine aw_neN (t := 44) dX1_determinant_37 (by decide) (by omega) (by omega) (fun h2 => ?_) (fun h2 => ?_)
    · skip
      refine aw_iload_n dX1_determinant_44 rfl ?_
      exact aw_iret dX1_determinant_45 rfl (by rw [sp_minor] at hQ; rw [if_neg (by omega)] at hQ; first | (rw [if_pos (by omega)] at hQ; exact hQ) | (rw [if_neg (by omega)] at hQ; exact hQ)) (Nat.zero_le _) (Nat.zero_le _)
    · skip
      refine aw_iload_n dX1_determinant_40 rfl ?_
      refine aw_goto (t := 45) dX1_determinant_41 (by decide) ?_
      exact aw_iret dX1_determinant_45 rfl (by rw [sp_minor] at hQ; rw [if_neg (by omega)] at hQ; first | (rw [if_pos (by omega)] at hQ; exact hQ) | (rw [if_neg (by omega)] at hQ; exact hQ)) (Nat.zero_le _) (Nat.zero_le _)
theorem lX1_hasLeast {G : aw_G} {d : Nat} {Ω : aw_O} {I : aw_MI} {J : aw_MJ} {Q : Int32 → aw_O → aw_MI → aw_MJ → Prop} {b e : Nat} (hB : aw_bowl Ω b) (he : I b 0 = nI e) (h3 : e ≤ 3) (hd : 2 ≤ d)  : ∀ (z k : Nat), z + k = e + 1 → Q (sp_hl (I (b + 1)) k z) Ω I J → AW G MX1_hasLeast (aw_nx Ω) d 0 0 (aw_QI Q) Ω I J 0 0 [.ref (aw_ad G b), .int (nI k)] 2 [] := by
  intro z
  induction z with
  | zero =>
    intro k h0 hQ
    refine aw_iload_n dX1_hasLeast_2 rfl ?_
    refine aw_aload_n dX1_hasLeast_3 rfl ?_
    refine aw_getIv (v := nI e) dX1_hasLeast_4 flX1_9 hB.o he ?_
    refine aw_gtN (t := 26) dX1_hasLeast_7 (by decide) (by omega) (by omega) (fun h1 => ?_) (fun h1 => absurd h1 (by omega))
    refine aw_iconst (v := nI 1) dX1_hasLeast_26 (by decide) ?_
    exact aw_zret dX1_hasLeast_27 rfl (by decide) hQ (Nat.zero_le _) (Nat.zero_le _)
  | succ z ih =>
    intro k h0 hQ
    refine aw_iload_n dX1_hasLeast_2 rfl ?_
    refine aw_aload_n dX1_hasLeast_3 rfl ?_
    refine aw_getIv (v := nI e) dX1_hasLeast_4 flX1_9 hB.o he ?_
    refine aw_gtN (t := 26) dX1_hasLeast_7 (by decide) (by omega) (by omega) (fun h1 => ?_) (fun h1 => ?_)
    · skip
      refine aw_iconst (v := nI 1) dX1_hasLeast_26 (by decide) ?_
      exact aw_zret dX1_hasLeast_27 rfl (by decide) (absurd h1 (by omega)) (Nat.zero_le _) (Nat.zero_le _)
    · skip
      refine aw_aload_n dX1_hasLeast_10 rfl ?_
      refine aw_iload_n dX1_hasLeast_11 rfl ?_
      refine aw_cvI (As := [_]) (d' := d - 1) dX1_hasLeast_12 lkX1_70 hB.o (by omega) rfl rfl (Nat.le_of_ble_eq_true rfl) ⟨Nat.le_refl _, Nat.le_refl _⟩ (tX1_determinant hB (by omega) (by omega) ?_)
      refine aw_if_gt (t := 20) dX1_hasLeast_15 (by decide) (fun h2 => ?_) (fun h2 => ?_)
      · skip
        refine aw_iincN dX1_hasLeast_20 rfl (by decide) ?_
        refine aw_lv (lv2 := [.ref _, .int _]) rfl ?_
        refine aw_goto (t := 2) dX1_hasLeast_23 (by decide) ?_
        exact ih (k + 1) (by omega) (by rw [sp_hl, if_pos h2] at hQ; exact hQ)
      · skip
        refine aw_iconst (v := nI 0) dX1_hasLeast_18 (by decide) ?_
        exact aw_zret dX1_hasLeast_19 rfl (by decide) (by rw [sp_hl, if_neg h2] at hQ; exact hQ) (Nat.zero_le _) (Nat.zero_le _)
theorem tX1_hasLeast {G : aw_G} {d : Nat} {Ω : aw_O} {I : aw_MI} {J : aw_MJ} {Q : Int32 → aw_O → aw_MI → aw_MJ → Prop} {b e : Nat} (hB : aw_bowl Ω b) (he : I b 0 = nI e) (h3 : e ≤ 3) (hd : 2 ≤ d) (hQ : Q (sp_hl (I (b + 1)) 1 e) Ω I J) : aw_Call G MX1_hasLeast d 0 0 [.ref (aw_ad G b)] Ω I J (aw_QI Q) := by
  refine aw_enter (by decide +kernel) rfl (Nat.le_of_ble_eq_true rfl) ?_
  show AW G MX1_hasLeast (aw_nx Ω) d 0 0 (aw_QI Q) Ω I J 0 0 [.ref (aw_ad G b), .null] 0 []
  refine aw_iconst (v := nI 1) dX1_hasLeast_0 (by decide) ?_
  refine aw_istore_n dX1_hasLeast_1 (by decide) ?_
  refine aw_lv (lv2 := [.ref _, .int _]) rfl ?_
  exact lX1_hasLeast hB he h3 hd e 1 (by omega) hQ
theorem lX1_squareOfPushes {G : aw_G} {d : Nat} {Ω : aw_O} {I : aw_MI} {J : aw_MJ} {Q : Int64 → aw_O → aw_MI → aw_MJ → Prop} {b e : Nat} (hB : aw_bowl Ω b) (he : I b 0 = nI e) (h3 : e ≤ 3) (hQ : Q (sp_sq (I (b + 2)) e) Ω I J) : ∀ (z i : Nat), i ≤ e → e - i < z → AW G MX1_squareOfPushes (aw_nx Ω) d 0 0 (aw_QL Q) Ω I J 0 0 [.ref (aw_ad G b), .long (sp_sq (I (b + 2)) i), .null, .int (nI i)] 4 [] := by
  intro z
  induction z with
  | zero =>
    intro i h0 hz
    exact absurd hz (by omega)
  | succ z ih =>
    intro i h0 hz
    refine aw_iload_n dX1_squareOfPushes_4 rfl ?_
    refine aw_aload_n dX1_squareOfPushes_5 rfl ?_
    refine aw_getIv (v := nI e) dX1_squareOfPushes_6 flX1_9 hB.o he ?_
    refine aw_geN (t := 35) dX1_squareOfPushes_9 (by decide) (by omega) (by omega) (fun h1 => ?_) (fun h1 => ?_)
    · skip
      refine aw_lload_n dX1_squareOfPushes_35 rfl ?_
      have e1 : i = e := by omega
      subst e1
      exact aw_lret dX1_squareOfPushes_36 rfl (hQ) (Nat.zero_le _) (Nat.zero_le _)
    · skip
      refine aw_lload_n dX1_squareOfPushes_12 rfl ?_
      refine aw_aload_n dX1_squareOfPushes_13 rfl ?_
      refine aw_getR dX1_squareOfPushes_14 flX1_19 hB.o hB.p4 ?_
      refine aw_iload_n dX1_squareOfPushes_17 rfl ?_
      refine aw_iald dX1_squareOfPushes_18 hB.s4 rfl (by omega) ?_
      refine aw_pc (pc2 := 19) rfl ?_
      refine aw_aload_n dX1_squareOfPushes_19 rfl ?_
      refine aw_getR dX1_squareOfPushes_20 flX1_19 hB.o hB.p4 ?_
      refine aw_iload_n dX1_squareOfPushes_23 rfl ?_
      refine aw_iald dX1_squareOfPushes_24 hB.s4 rfl (by omega) ?_
      refine aw_imul dX1_squareOfPushes_25 ?_
      refine aw_i2l dX1_squareOfPushes_26 ?_
      refine aw_pc (pc2 := 27) rfl ?_
      refine aw_ladd dX1_squareOfPushes_27 ?_
      refine aw_lstore_n dX1_squareOfPushes_28 (by decide) ?_
      refine aw_lv (lv2 := [.ref _, .long _, .null, .int _]) rfl ?_
      refine aw_iincN dX1_squareOfPushes_29 rfl (by decide) ?_
      refine aw_lv (lv2 := [.ref _, .long _, .null, .int _]) rfl ?_
      refine aw_goto (t := 4) dX1_squareOfPushes_32 (by decide) ?_
      exact ih (i + 1) (by omega) (by omega)
theorem tX1_squareOfPushes {G : aw_G} {d : Nat} {Ω : aw_O} {I : aw_MI} {J : aw_MJ} {Q : Int64 → aw_O → aw_MI → aw_MJ → Prop} {b e : Nat} (hB : aw_bowl Ω b) (he : I b 0 = nI e) (h3 : e ≤ 3) (hQ : Q (sp_sq (I (b + 2)) e) Ω I J) : aw_Call G MX1_squareOfPushes d 0 0 [.ref (aw_ad G b)] Ω I J (aw_QL Q) := by
  refine aw_enter (by decide +kernel) rfl (Nat.le_of_ble_eq_true rfl) ?_
  show AW G MX1_squareOfPushes (aw_nx Ω) d 0 0 (aw_QL Q) Ω I J 0 0 [.ref (aw_ad G b), .null, .null, .null] 0 []
  refine aw_lconst (v := 0) dX1_squareOfPushes_0 (by decide) ?_
  refine aw_lstore_n dX1_squareOfPushes_1 (by decide) ?_
  refine aw_lv (lv2 := [.ref _, .long _, .null, .null]) rfl ?_
  refine aw_iconst (v := nI 0) dX1_squareOfPushes_2 (by decide) ?_
  refine aw_istore_n dX1_squareOfPushes_3 (by decide) ?_
  refine aw_lv (lv2 := [.ref _, .long _, .null, .int _]) rfl ?_
  exact lX1_squareOfPushes hB he h3 hQ (e + 1) 0 (by omega) (by omega)
theorem lX1_leftOf {G : aw_G} {d : Nat} {Ω : aw_O} {I : aw_MI} {J : aw_MJ} {Q : Int64 → aw_O → aw_MI → aw_MJ → Prop} {b e l p : Nat} {v : Int32} (hB : aw_bowl Ω b) (hP : aw_point Ω p) (he : I b 0 = nI e) (h3 : e ≤ 3) (hl : l < 6) (hd : 1 ≤ d) (hQ : Q (sp_left v (J p 2) (fun i => sp_row (I (b + 3) l) (I (b + 6) (l * 3 + i))) (J (p + 1)) e) Ω I J) : ∀ (z i : Nat), i ≤ e → e - i < z → AW G MX1_leftOf (aw_nx Ω) d 0 0 (aw_QL Q) Ω I J 0 0 [.ref (aw_ad G b), .int v, .int (nI l), .ref (aw_ad G p), .long (sp_left v (J p 2) (fun i => sp_row (I (b + 3) l) (I (b + 6) (l * 3 + i))) (J (p + 1)) i), .null, .int (nI i)] 12 [] := by
  intro z
  induction z with
  | zero =>
    intro i h0 hz
    exact absurd hz (by omega)
  | succ z ih =>
    intro i h0 hz
    refine aw_iload dX1_leftOf_12 rfl ?_
    refine aw_aload_n dX1_leftOf_14 rfl ?_
    refine aw_getIv (v := nI e) dX1_leftOf_15 flX1_9 hB.o he ?_
    refine aw_geN (t := 48) dX1_leftOf_18 (by decide) (by omega) (by omega) (fun h1 => ?_) (fun h1 => ?_)
    · skip
      refine aw_lload dX1_leftOf_48 rfl ?_
      have e1 : i = e := by omega
      subst e1
      exact aw_lret dX1_leftOf_50 rfl (hQ) (Nat.zero_le _) (Nat.zero_le _)
    · skip
      refine aw_lload dX1_leftOf_21 rfl ?_
      refine aw_aload_n dX1_leftOf_23 rfl ?_
      refine aw_iload_n dX1_leftOf_24 rfl ?_
      refine aw_iload dX1_leftOf_25 rfl ?_
      refine aw_cvI (As := [_, _]) (d' := d - 1) dX1_leftOf_27 lkX1_80 hB.o (by omega) rfl rfl (Nat.le_of_ble_eq_true rfl) ⟨Nat.le_refl _, Nat.le_refl _⟩ (tX1_rowOf hB hl (by omega) ?_)
      refine aw_pc (pc2 := 30) rfl ?_
      refine aw_i2l dX1_leftOf_30 ?_
      refine aw_aload_n dX1_leftOf_31 rfl ?_
      refine aw_getR dX1_leftOf_32 flX1_83 hP.o hP.p0 ?_
      refine aw_iload dX1_leftOf_35 rfl ?_
      refine aw_lald dX1_leftOf_37 hP.s0 rfl (by omega) ?_
      refine aw_lmul dX1_leftOf_38 ?_
      refine aw_pc (pc2 := 39) rfl ?_
      refine aw_lsub dX1_leftOf_39 ?_
      refine aw_lstore dX1_leftOf_40 (by decide) ?_
      refine aw_lv (lv2 := [.ref _, .int _, .int _, .ref _, .long _, .null, .int _]) rfl ?_
      refine aw_iincN dX1_leftOf_42 rfl (by decide) ?_
      refine aw_lv (lv2 := [.ref _, .int _, .int _, .ref _, .long _, .null, .int _]) rfl ?_
      refine aw_goto (t := 12) dX1_leftOf_45 (by decide) ?_
      exact ih (i + 1) (by omega) (by omega)
theorem tX1_leftOf {G : aw_G} {d : Nat} {Ω : aw_O} {I : aw_MI} {J : aw_MJ} {Q : Int64 → aw_O → aw_MI → aw_MJ → Prop} {b e l p : Nat} {v : Int32} (hB : aw_bowl Ω b) (hP : aw_point Ω p) (he : I b 0 = nI e) (h3 : e ≤ 3) (hl : l < 6) (hd : 1 ≤ d) (hQ : Q (sp_left v (J p 2) (fun i => sp_row (I (b + 3) l) (I (b + 6) (l * 3 + i))) (J (p + 1)) e) Ω I J) : aw_Call G MX1_leftOf d 0 0 [.ref (aw_ad G b), .int v, .int (nI l), .ref (aw_ad G p)] Ω I J (aw_QL Q) := by
  refine aw_enter (by decide +kernel) rfl (Nat.le_of_ble_eq_true rfl) ?_
  show AW G MX1_leftOf (aw_nx Ω) d 0 0 (aw_QL Q) Ω I J 0 0 [.ref (aw_ad G b), .int v, .int (nI l), .ref (aw_ad G p), .null, .null, .null] 0 []
  refine aw_iload_n dX1_leftOf_0 rfl ?_
  refine aw_i2l dX1_leftOf_1 ?_
  refine aw_aload_n dX1_leftOf_2 rfl ?_
  refine aw_getJ dX1_leftOf_3 flX1_74 hP.o ?_
  refine aw_lmul dX1_leftOf_6 ?_
  refine aw_pc (pc2 := 7) rfl ?_
  refine aw_lstore dX1_leftOf_7 (by decide) ?_
  refine aw_lv (lv2 := [.ref _, .int _, .int _, .ref _, .long _, .null, .null]) rfl ?_
  refine aw_iconst (v := nI 0) dX1_leftOf_9 (by decide) ?_
  refine aw_istore dX1_leftOf_10 (by decide) ?_
  refine aw_lv (lv2 := [.ref _, .int _, .int _, .ref _, .long _, .null, .int _]) rfl ?_
  exact lX1_leftOf hB hP he h3 hl hd hQ (e + 1) 0 (by omega) (by omega)

/-! THE REFERENCE: drop, lineOf, determinants -/
theorem sh_nI : ∀ w, w < 7 → nI 1 <<< (nI w &&& 31) = nI (2 ^ w) := by decide +kernel
theorem has_ok : ∀ S, S < 64 → ∀ c, c < 6 → (sp_has (nI S) (nI c) = 0 ↔ nI S >>> (nI c &&& 31) &&& nI 1 = 0) := by decide +kernel
theorem ix_ok : ∀ S, S < 64 → ∀ c, c < 6 → ¬ nI S >>> (nI c &&& 31) &&& nI 1 = 0 → nI S &&& (nI 1 <<< (nI c &&& 31) ^^^ (-1)) = nI (S - 2 ^ c) := by decide +kernel
theorem par_ok : ∀ r, r < 6 → ∀ j, j < 7 → (nI r - nI j - (nI r - nI j) / nI 2 * nI 2 = 0 ↔ (r + j) % 2 = 0) := by decide +kernel
theorem bc_0 (a : Nat) : nI a - nI 1 + nI 0 = nI a - nI 1 := by
  rw [show nI 0 = (0 : Int32) from rfl]
  grind
theorem bc_1 (a : Nat) : nI a - nI 1 + nI 1 = nI (a + 1) - nI 1 := by
  rw [← nI_add a 1]
  grind
theorem bh_0 (a : Nat) : nI a = nI a - nI 0 := by
  rw [show nI 0 = (0 : Int32) from rfl]
  grind
theorem bh_s (a b : Nat) : nI a - nI b + Int32.ofInt (-1) = nI a - nI (b + 1) := by
  rw [← nI_add b 1, show nI 1 = (1 : Int32) from rfl, show Int32.ofInt (-1) = (-1 : Int32) from rfl]
  grind
def dq_P (pt : Nat → Int64) (J0 J : aw_MJ) (S : Nat) : Prop := (∀ a, a ≠ 72 → J a = J0 a) ∧ ∀ S', S' < S → J 72 S' = pt S'
theorem dq_s {pt : Nat → Int64} {J0 J : aw_MJ} {S : Nat} {v : Int64} (h : dq_P pt J0 J S) (hv : v = pt S) : dq_P pt J0 (aw_up J 72 S v) (S + 1) := by
  refine ⟨fun a ha => ?_, fun S' hS => ?_⟩
  · rw [aw_up_off J _ ha, h.1 a ha]
  · by_cases e : S' = S
    · rw [e, aw_up_self, hv]
    · rw [aw_up_ne J _ (Or.inr e), h.2 S' (by omega)]

def dr_P (I0 I : aw_MI) (l k : Nat) : Prop := (∀ a, a ≠ 68 → I a = I0 a) ∧ ∀ j, I 68 j = if 6 * l ≤ j ∧ j < k then I0 68 (j + 6) else I0 68 j
theorem dr_s {I0 I : aw_MI} {l k : Nat} (h : dr_P I0 I l k) (hk : 6 * l ≤ k) : dr_P I0 (aw_up I 68 k (I 68 (k + 6))) l (k + 1) := by
  refine ⟨fun a ha => ?_, fun j => ?_⟩
  · rw [aw_up_off I _ ha, h.1 a ha]
  · by_cases e : j = k
    · rw [e, aw_up_self, h.2 (k + 6), if_neg (by omega), if_pos (by omega)]
    · rw [aw_up_ne I _ (Or.inr e), h.2 j]
      by_cases e2 : 6 * l ≤ j ∧ j < k
      · rw [if_pos e2, if_pos (by omega)]
      · rw [if_neg e2, if_neg (by omega)]
theorem lX8_drop {G : aw_G} {d : Nat} {Ω : aw_O} {I0 : aw_MI} {J : aw_MJ} {Q : Int32 → aw_O → aw_MI → aw_MJ → Prop} {m l : Nat} (hM : aw_model Ω 65) (hm : I0 65 4 = nI m) (hm6 : m ≤ 6) (hl : l < m) (hQ : ∀ I', (∀ a, a ≠ 68 → I' a = aw_up I0 65 4 (nI (m - 1)) a) → (∀ j, I' 68 j = if 6 * l ≤ j ∧ j < 6 * (m - 1) then I0 68 (j + 6) else I0 68 j) → Q (nI (m - 1)) Ω I' J) : ∀ (z k : Nat) (I : aw_MI), 6 * l ≤ k → k ≤ 6 * (m - 1) → 6 * (m - 1) - k < z → dr_P I0 I l k → AW G MX8_drop (aw_nx Ω) d 0 0 (aw_QI Q) Ω I J 0 0 [.ref (aw_ad G 65), .int (nI l), .int (nI k)] 16 [] := by
  intro z
  induction z with
  | zero =>
    intro k I h0 h1 hz hP
    exact absurd hz (by omega)
  | succ z ih =>
    intro k I h0 h1 hz hP
    refine aw_iload_n dX8_drop_16 rfl ?_
    refine aw_bipush (v := nI 6) dX8_drop_17 (by decide) ?_
    refine aw_aload_n dX8_drop_19 rfl ?_
    refine aw_getIv (v := nI m) dX8_drop_20 flX8_88 hM.o (by rw [hP.1 65 (by decide)]; exact hm) ?_
    refine aw_iconst (v := nI 1) dX8_drop_23 (by decide) ?_
    refine aw_pc (pc2 := 24) rfl ?_
    refine aw_isubN dX8_drop_24 (by omega) ?_
    refine aw_imulN dX8_drop_25 ?_
    refine aw_geN (t := 50) dX8_drop_26 (by decide) (by omega) (by omega) (fun h1 => ?_) (fun h1 => ?_)
    · skip
      refine aw_aload_n dX8_drop_50 rfl ?_
      refine aw_dup dX8_drop_51 rfl ?_
      refine aw_getIv (v := nI m) dX8_drop_52 flX8_88 hM.o (by rw [hP.1 65 (by decide)]; exact hm) ?_
      refine aw_iconst (v := nI 1) dX8_drop_55 (by decide) ?_
      refine aw_isubN dX8_drop_56 (by omega) ?_
      refine aw_pc (pc2 := 57) rfl ?_
      refine aw_putI dX8_drop_57 fwX8_88 hM.o rfl ?_
      refine aw_aload_n dX8_drop_60 rfl ?_
      refine aw_getIv (v := nI (m - 1)) dX8_drop_61 flX8_88 hM.o (aw_up_self _ _ _ _) ?_
      exact aw_iret dX8_drop_64 rfl (hQ _ (fun a ha => by
        by_cases e9 : a = 65
        · subst e9
          funext q
          by_cases e8 : q = 4
          · subst e8; rw [aw_up_self, aw_up_self]
          · rw [aw_up_ne _ _ (Or.inr e8), aw_up_ne _ _ (Or.inr e8), hP.1 65 (by decide)]
        · rw [aw_up_off _ _ e9, aw_up_off _ _ e9, hP.1 a ha]) (fun j => by rw [aw_up_off _ _ (by decide), hP.2 j, show k = 6 * (m - 1) by omega])) (Nat.zero_le _) (Nat.zero_le _)
    · skip
      refine aw_aload_n dX8_drop_29 rfl ?_
      refine aw_getR dX8_drop_30 flX8_20 hM.o hM.p5 ?_
      refine aw_iload_n dX8_drop_33 rfl ?_
      refine aw_aload_n dX8_drop_34 rfl ?_
      refine aw_getR dX8_drop_35 flX8_20 hM.o hM.p5 ?_
      refine aw_pc (pc2 := 38) rfl ?_
      refine aw_iload_n dX8_drop_38 rfl ?_
      refine aw_bipush (v := nI 6) dX8_drop_39 (by decide) ?_
      refine aw_iaddN dX8_drop_41 ?_
      refine aw_iald dX8_drop_42 hM.s5 rfl (by omega) ?_
      refine aw_iast dX8_drop_43 hM.s5 rfl (by omega) rfl ?_
      refine aw_iincN dX8_drop_44 rfl (by decide) ?_
      refine aw_lv (lv2 := [.ref _, .int _, .int _]) rfl ?_
      refine aw_pc (pc2 := 47) rfl ?_
      refine aw_goto (t := 16) dX8_drop_47 (by decide) ?_
      exact ih (k + 1) _ (by omega) (by omega) (by omega) (dr_s hP h0)
theorem tX8_drop {G : aw_G} {d : Nat} {Ω : aw_O} {I : aw_MI} {J : aw_MJ} {Q : Int32 → aw_O → aw_MI → aw_MJ → Prop} {m : Nat} {x : Int32} (hM : aw_model Ω 65) (hm : I 65 4 = nI m) (hm6 : m ≤ 6) (hd : 2 ≤ d) (kB : sp_var x m = 0 → Q (-2) Ω I J) (hQ : ∀ l I', x = nI l → l < m → (∀ a, a ≠ 68 → I' a = aw_up I 65 4 (nI (m - 1)) a) → (∀ j, I' 68 j = if 6 * l ≤ j ∧ j < 6 * (m - 1) then I 68 (j + 6) else I 68 j) → Q (nI (m - 1)) Ω I' J) : aw_Call G MX8_drop d 0 0 [.ref (aw_ad G 65), .int x] Ω I J (aw_QI Q) := by
  refine aw_enter (by decide +kernel) rfl (Nat.le_of_ble_eq_true rfl) ?_
  show AW G MX8_drop (aw_nx Ω) d 0 0 (aw_QI Q) Ω I J 0 0 [.ref (aw_ad G 65), .int x, .null] 0 []
  refine aw_aload_n dX8_drop_0 rfl ?_
  refine aw_iload_n dX8_drop_1 rfl ?_
  refine aw_cvI (As := [_]) (d' := d - 1) dX8_drop_2 lkX8_114 hM.o (by omega) rfl rfl (Nat.le_of_ble_eq_true rfl) ⟨Nat.le_refl _, Nat.le_refl _⟩ (tX8_isLine hM hm hm6 (by omega) ?_)
  refine aw_if_ne (t := 11) dX8_drop_5 (by decide) (fun h1 => ?_) (fun h1 => ?_)
  · skip
    have kh1 := h1
    obtain ⟨l, hl, rfl⟩ := sp_var1 h1
    refine aw_bipush (v := nI 6) dX8_drop_11 (by decide) ?_
    refine aw_iload_n dX8_drop_13 rfl ?_
    refine aw_imulN dX8_drop_14 ?_
    refine aw_istore_n dX8_drop_15 (by decide) ?_
    refine aw_lv (lv2 := [.ref _, .int _, .int _]) rfl ?_
    exact lX8_drop hM hm hm6 hl (fun I' a1 a2 => hQ l I' rfl hl a1 a2) (6 * (m - 1) + 1) (6 * l) I (by omega) (by omega) (by omega) ⟨fun _ _ => rfl, fun j => by rw [if_neg (by omega)]⟩
  · skip
    refine aw_bipush (v := -2) dX8_drop_8 (by decide) ?_
    exact aw_iret dX8_drop_10 rfl (kB h1) (Nat.zero_le _) (Nat.zero_le _)
def rp_lo (I : aw_MI) (n t l c : Nat) : Int32 := if c < 3 then I 68 (6 * l + c) else if c = 3 then rp_bd I l (nI t) else rp_row I n l (c - 4)
theorem tX8_lineOf {G : aw_G} {d : Nat} {Ω : aw_O} {I : aw_MI} {J : aw_MJ} {Q : Int32 → aw_O → aw_MI → aw_MJ → Prop} {n m t : Nat} {x y : Int32} (hM : aw_model Ω 65) (hn : I 65 0 = nI n) (hn3 : n ≤ 3) (hm : I 65 4 = nI m) (hm6 : m ≤ 6) (ht : I 65 3 = nI t) (hd : 2 ≤ d) (kB : sp_var x m = 0 ∨ sp_lh y 0 6 = 0 → Q (-2) Ω I J) (hQ : ∀ l c, x = nI l → l < m → y = nI c → c ≤ 6 → Q (rp_lo I n t l c) Ω I J) : aw_Call G MX8_lineOf d 0 0 [.ref (aw_ad G 65), .int x, .int y] Ω I J (aw_QI Q) := by
  refine aw_enter (by decide +kernel) rfl (Nat.le_of_ble_eq_true rfl) ?_
  show AW G MX8_lineOf (aw_nx Ω) d 0 0 (aw_QI Q) Ω I J 0 0 [.ref (aw_ad G 65), .int x, .int y] 0 []
  refine aw_aload_n dX8_lineOf_0 rfl ?_
  refine aw_iload_n dX8_lineOf_1 rfl ?_
  refine aw_cvI (As := [_]) (d' := d - 1) dX8_lineOf_2 lkX8_114 hM.o (by omega) rfl rfl (Nat.le_of_ble_eq_true rfl) ⟨Nat.le_refl _, Nat.le_refl _⟩ (tX8_isLine hM hm hm6 (by omega) ?_)
  refine aw_if_eq (t := 20) dX8_lineOf_5 (by decide) (fun h1 => ?_) (fun h1 => ?_)
  · skip
    refine aw_bipush (v := -2) dX8_lineOf_20 (by decide) ?_
    exact aw_iret dX8_lineOf_22 rfl (kB (Or.inl h1)) (Nat.zero_le _) (Nat.zero_le _)
  · skip
    have kh1 := h1
    obtain ⟨l, hl, rfl⟩ := sp_var1 h1
    refine aw_iload_n dX8_lineOf_8 rfl ?_
    refine aw_i2l dX8_lineOf_9 ?_
    refine aw_lconst (v := 0) dX8_lineOf_10 (by decide) ?_
    refine aw_ldc2 (v := 6) dX8_lineOf_11 (aw_pl 945 (by decide +kernel) rfl) ?_
    refine aw_csI (As := [_, _, _]) (d' := d - 1) dX8_lineOf_14 lkX8_84 (by omega) rfl rfl (Nat.le_of_ble_eq_true rfl) ⟨Nat.le_refl _, Nat.le_refl _⟩ (tX8_in ?_)
    refine aw_toI (rg_06 y) ?_
    refine aw_pc (pc2 := 17) rfl ?_
    refine aw_if_ne (t := 23) dX8_lineOf_17 (by decide) (fun h2 => ?_) (fun h2 => ?_)
    · skip
      obtain ⟨c, rfl, c0, c6⟩ := sp_lh1 h2 (by decide) (by decide)
      refine aw_iload_n dX8_lineOf_23 rfl ?_
      refine aw_iconst (v := nI 3) dX8_lineOf_24 (by decide) ?_
      refine aw_geN (t := 42) dX8_lineOf_25 (by decide) (by omega) (by omega) (fun h3 => ?_) (fun h3 => ?_)
      · skip
        refine aw_iload_n dX8_lineOf_42 rfl ?_
        refine aw_iconst (v := nI 3) dX8_lineOf_43 (by decide) ?_
        refine aw_neN (t := 55) dX8_lineOf_44 (by decide) (by omega) (by omega) (fun h4 => ?_) (fun h4 => ?_)
        · skip
          refine aw_aload_n dX8_lineOf_55 rfl ?_
          refine aw_iload_n dX8_lineOf_56 rfl ?_
          refine aw_iload_n dX8_lineOf_57 rfl ?_
          refine aw_iconst (v := nI 4) dX8_lineOf_58 (by decide) ?_
          refine aw_isubN dX8_lineOf_59 (by omega) ?_
          refine aw_pc (pc2 := 60) rfl ?_
          refine aw_cvI (As := [_, _]) (d' := d - 1) dX8_lineOf_60 lkX8_129 hM.o (by omega) rfl rfl (Nat.le_of_ble_eq_true rfl) ⟨Nat.le_refl _, Nat.le_refl _⟩ (tX8_row hM hn hn3 (by omega) (by omega) ?_)
          have q9 := hQ l c rfl hl rfl c6
          rw [rp_lo, if_neg (by omega), if_neg (by omega)] at q9
          exact aw_iret dX8_lineOf_63 rfl (q9) (Nat.zero_le _) (Nat.zero_le _)
        · skip
          refine aw_aload_n dX8_lineOf_47 rfl ?_
          refine aw_iload_n dX8_lineOf_48 rfl ?_
          refine aw_cvI (As := [_]) (d' := d - 1) dX8_lineOf_49 lkX8_125 hM.o (by omega) rfl rfl (Nat.le_of_ble_eq_true rfl) ⟨Nat.le_refl _, Nat.le_refl _⟩ (tX8_bound hM (by omega) ?_)
          rw [ht]
          refine aw_goto (t := 63) dX8_lineOf_52 (by decide) ?_
          have q9 := hQ l c rfl hl rfl c6
          rw [rp_lo, if_neg (by omega), if_pos (by omega)] at q9
          exact aw_iret dX8_lineOf_63 rfl (q9) (Nat.zero_le _) (Nat.zero_le _)
      · skip
        refine aw_aload_n dX8_lineOf_28 rfl ?_
        refine aw_getR dX8_lineOf_29 flX8_20 hM.o hM.p5 ?_
        refine aw_bipush (v := nI 6) dX8_lineOf_32 (by decide) ?_
        refine aw_iload_n dX8_lineOf_34 rfl ?_
        refine aw_imulN dX8_lineOf_35 ?_
        refine aw_pc (pc2 := 36) rfl ?_
        refine aw_iload_n dX8_lineOf_36 rfl ?_
        refine aw_iaddN dX8_lineOf_37 ?_
        refine aw_iald dX8_lineOf_38 hM.s5 rfl (by omega) ?_
        refine aw_goto (t := 63) dX8_lineOf_39 (by decide) ?_
        have q9 := hQ l c rfl hl rfl c6
        rw [rp_lo, if_pos (by omega)] at q9
        exact aw_iret dX8_lineOf_63 rfl (q9) (Nat.zero_le _) (Nat.zero_le _)
    · skip
      refine aw_bipush (v := -2) dX8_lineOf_20 (by decide) ?_
      exact aw_iret dX8_lineOf_22 rfl (kB (Or.inr (h2))) (Nat.zero_le _) (Nat.zero_le _)
theorem lX8_det3 {G : aw_G} {d : Nat} {Ω : aw_O} {I : aw_MI} {J : aw_MJ} {Q : Int64 → aw_O → aw_MI → aw_MJ → Prop} {w S : Nat} {cell : Nat → Nat → Int64} {pt : Nat → Int64} {J0 : aw_MJ} (hM : aw_model Ω 65) (hw : I 65 13 = nI w) (hw6 : w ≤ 6) (hd : 1 ≤ d) (hc : ∀ r c, r < w → c < w → J0 71 (6 * r + c) = cell r c) (hp : dp_ok cell pt w) (hS0 : 0 < S) (hS : S < 2 ^ w) (hP : dq_P pt J0 J S) (kk : ∀ J', dq_P pt J0 J' (S + 1) → AW G MX8_determinant (aw_nx Ω) d 0 0 (aw_QL Q) Ω I J' 0 0 [.ref (aw_ad G 65), .int (nI (S + 1)), .null, .null, .null, .null, .null, .null, .null] 9 []) : ∀ (z c : Nat), c ≤ w → w - c < z → AW G MX8_determinant (aw_nx Ω) d 0 0 (aw_QL Q) Ω I J 0 0 [.ref (aw_ad G 65), .int (nI S), .int (nI ((sp_mb (nI S) w).length - 1)), .long (dp_sum cell pt S ((sp_mb (nI S) w).length - 1) c), .null, .int (nI ((sp_mb (nI S) w).length - 1) - nI (sp_mb (nI S) c).length), .int (nI c), .null, .null] 61 [] := by
  intro z
  induction z with
  | zero =>
    intro c h0 hz
    exact absurd hz (by omega)
  | succ z ih =>
    intro c h0 hz
    have h64 : 2 ^ w ≤ 2 ^ 6 := Nat.pow_le_pow_right (by decide) hw6
    have hL6 := dp_len hw6 hS
    have hL1 : 1 ≤ (sp_mb (nI S) w).length := by rw [sp_mb_m w (by omega) S hS]; exact dp_f2 S (by omega) hS0
    refine aw_iload dX8_determinant_61 rfl ?_
    refine aw_aload_n dX8_determinant_63 rfl ?_
    refine aw_getIv (v := nI w) dX8_determinant_64 flX8_132 hM.o (by first | exact hw | (simp (disch := omega) only [aw_cp_off, aw_up_off, aw_wr_off, aw_fill_off, aw_fr_off]; exact hw)) ?_
    refine aw_geN (t := 134) dX8_determinant_67 (by decide) (by omega) (by omega) (fun h1 => ?_) (fun h1 => ?_)
    · skip
      have e1 : c = w := by omega
      rw [e1]
      refine aw_aload_n dX8_determinant_134 rfl ?_
      refine aw_getR dX8_determinant_135 flX8_33 hM.o hM.p15 ?_
      refine aw_iload_n dX8_determinant_138 rfl ?_
      refine aw_lload_n dX8_determinant_139 rfl ?_
      refine aw_last dX8_determinant_140 hM.s15 rfl (by omega) rfl ?_
      refine aw_pc (pc2 := 141) rfl ?_
      refine aw_iincN dX8_determinant_141 rfl (by decide) ?_
      refine aw_lv (lv2 := [.ref _, .int _, .int _, .long _, .null, .int _, .int _, .null, .null]) rfl ?_
      refine aw_goto (t := 9) dX8_determinant_144 (by decide) ?_
      refine aw_frg 2 ?_
      refine aw_frg 3 ?_
      refine aw_frg 5 ?_
      refine aw_frg 6 ?_
      exact kk _ (dq_s hP (hp.2 S hS0 hS).symm)
    · skip
      refine aw_iload_n dX8_determinant_70 rfl ?_
      refine aw_iload dX8_determinant_71 rfl ?_
      refine aw_csI (As := [_, _]) (d' := d - 1) dX8_determinant_73 lkX8_135 (by omega) rfl rfl (Nat.le_of_ble_eq_true rfl) ⟨Nat.le_refl _, Nat.le_refl _⟩ (tX8_has ?_)
      refine aw_if_eq (t := 128) dX8_determinant_76 (by decide) (fun h2 => ?_) (fun h2 => ?_)
      · skip
        refine aw_iincN dX8_determinant_128 rfl (by decide) ?_
        refine aw_lv (lv2 := [.ref _, .int _, .int _, .long _, .null, .int _, .int _, .null, .null]) rfl ?_
        refine aw_goto (t := 61) dX8_determinant_131 (by decide) ?_
        have hb := (has_ok S (by omega) c (by omega)).mp h2
        have q9 := ih (c + 1) (by omega) (by omega)
        rw [dp_sum, if_pos hb, sp_mb_f hb] at q9
        exact q9
      · skip
        have hb : ¬ nI S >>> (nI c &&& 31) &&& nI 1 = 0 := fun q => h2 ((has_ok S (by omega) c (by omega)).mpr q)
        obtain ⟨f1, f2, f3, f4⟩ := dp_f1 S (by omega) c (by omega) hb
        have hpos : 0 < 2 ^ c := Nat.pos_of_ne_zero (by simp)
        rw [← sp_mb_m w (by omega) S hS] at f4
        refine aw_aload_n dX8_determinant_79 rfl ?_
        refine aw_getR dX8_determinant_80 flX8_29 hM.o hM.p14 ?_
        refine aw_bipush (v := nI 6) dX8_determinant_83 (by decide) ?_
        refine aw_iload_n dX8_determinant_85 rfl ?_
        refine aw_imulN dX8_determinant_86 ?_
        refine aw_pc (pc2 := 87) rfl ?_
        refine aw_iload dX8_determinant_87 rfl ?_
        refine aw_iaddN dX8_determinant_89 ?_
        refine aw_laldv (v := cell ((sp_mb (nI S) w).length - 1) c) dX8_determinant_90 hM.s14 rfl (by omega) (by rw [hP.1 71 (by decide)]; exact hc _ c (by omega) (by omega)) ?_
        refine aw_aload_n dX8_determinant_91 rfl ?_
        refine aw_getR dX8_determinant_92 flX8_33 hM.o hM.p15 ?_
        refine aw_iload_n dX8_determinant_95 rfl ?_
        refine aw_pc (pc2 := 96) rfl ?_
        refine aw_iconst (v := nI 1) dX8_determinant_96 (by decide) ?_
        refine aw_iload dX8_determinant_97 rfl ?_
        refine aw_ishl dX8_determinant_99 ?_
        refine aw_iconst (v := -1) dX8_determinant_100 (by decide) ?_
        refine aw_ixor dX8_determinant_101 ?_
        refine aw_iand dX8_determinant_102 ?_
        refine aw_toI (ix_ok S (by omega) c (by omega) hb) ?_
        refine aw_pc (pc2 := 103) rfl ?_
        refine aw_laldv (v := pt (S - 2 ^ c)) dX8_determinant_103 hM.s15 rfl (by omega) (hP.2 _ (by omega)) ?_
        refine aw_lmul dX8_determinant_104 ?_
        refine aw_lstore dX8_determinant_105 (by decide) ?_
        refine aw_lv (lv2 := [.ref _, .int _, .int _, .long _, .null, .int _, .int _, .long _, .null]) rfl ?_
        refine aw_lload_n dX8_determinant_107 rfl ?_
        refine aw_iload dX8_determinant_108 rfl ?_
        refine aw_iconst (v := nI 2) dX8_determinant_110 (by decide) ?_
        refine aw_pc (pc2 := 111) rfl ?_
        refine aw_irem dX8_determinant_111 (by decide) ?_
        refine aw_if_ne (t := 120) dX8_determinant_112 (by decide) (fun h3 => ?_) (fun h3 => ?_)
        · skip
          refine aw_lload dX8_determinant_120 rfl ?_
          refine aw_lneg dX8_determinant_122 ?_
          refine aw_ladd dX8_determinant_123 ?_
          refine aw_lstore_n dX8_determinant_124 (by decide) ?_
          refine aw_lv (lv2 := [.ref _, .int _, .int _, .long _, .null, .int _, .int _, .long _, .null]) rfl ?_
          refine aw_iinc dX8_determinant_125 rfl rfl (by decide) ?_
          refine aw_lv (lv2 := [.ref _, .int _, .int _, .long _, .null, .int _, .int _, .long _, .null]) rfl ?_
          refine aw_pc (pc2 := 128) rfl ?_
          refine aw_iincN dX8_determinant_128 rfl (by decide) ?_
          refine aw_lv (lv2 := [.ref _, .int _, .int _, .long _, .null, .int _, .int _, .long _, .null]) rfl ?_
          refine aw_goto (t := 61) dX8_determinant_131 (by decide) ?_
          refine aw_frg 7 ?_
          have q9 := ih (c + 1) (by omega) (by omega)
          rw [dp_sum, if_neg hb, sp_mb_t hb, List.length_append, if_neg (fun q => h3 ((par_ok _ (by omega) _ (by omega)).mpr q))] at q9
          rw [bh_s]
          exact q9
        · skip
          refine aw_lload dX8_determinant_115 rfl ?_
          refine aw_goto (t := 123) dX8_determinant_117 (by decide) ?_
          refine aw_ladd dX8_determinant_123 ?_
          refine aw_lstore_n dX8_determinant_124 (by decide) ?_
          refine aw_lv (lv2 := [.ref _, .int _, .int _, .long _, .null, .int _, .int _, .long _, .null]) rfl ?_
          refine aw_iinc dX8_determinant_125 rfl rfl (by decide) ?_
          refine aw_lv (lv2 := [.ref _, .int _, .int _, .long _, .null, .int _, .int _, .long _, .null]) rfl ?_
          refine aw_iincN dX8_determinant_128 rfl (by decide) ?_
          refine aw_lv (lv2 := [.ref _, .int _, .int _, .long _, .null, .int _, .int _, .long _, .null]) rfl ?_
          refine aw_goto (t := 61) dX8_determinant_131 (by decide) ?_
          refine aw_frg 7 ?_
          have q9 := ih (c + 1) (by omega) (by omega)
          rw [dp_sum, if_neg hb, sp_mb_t hb, List.length_append, if_pos ((par_ok _ (by omega) _ (by omega)).mp h3)] at q9
          rw [bh_s]
          exact q9
theorem lX8_det2 {G : aw_G} {d : Nat} {Ω : aw_O} {I : aw_MI} {J : aw_MJ} {Q : Int64 → aw_O → aw_MI → aw_MJ → Prop} {w S : Nat} {cell : Nat → Nat → Int64} {pt : Nat → Int64} {J0 : aw_MJ} (hM : aw_model Ω 65) (hw : I 65 13 = nI w) (hw6 : w ≤ 6) (hd : 1 ≤ d) (hc : ∀ r c, r < w → c < w → J0 71 (6 * r + c) = cell r c) (hp : dp_ok cell pt w) (hS0 : 0 < S) (hS : S < 2 ^ w) (hP : dq_P pt J0 J S) (kk : ∀ J', dq_P pt J0 J' (S + 1) → AW G MX8_determinant (aw_nx Ω) d 0 0 (aw_QL Q) Ω I J' 0 0 [.ref (aw_ad G 65), .int (nI (S + 1)), .null, .null, .null, .null, .null, .null, .null] 9 []) : ∀ (z c : Nat), c ≤ w → w - c < z → AW G MX8_determinant (aw_nx Ω) d 0 0 (aw_QL Q) Ω I J 0 0 [.ref (aw_ad G 65), .int (nI S), .int (nI (sp_mb (nI S) c).length - nI 1), .int (nI c), .null, .null, .null, .null, .null] 23 [] := by
  intro z
  induction z with
  | zero =>
    intro c h0 hz
    exact absurd hz (by omega)
  | succ z ih =>
    intro c h0 hz
    have h64 : 2 ^ w ≤ 2 ^ 6 := Nat.pow_le_pow_right (by decide) hw6
    have hL6 := dp_len hw6 hS
    have hL1 : 1 ≤ (sp_mb (nI S) w).length := by rw [sp_mb_m w (by omega) S hS]; exact dp_f2 S (by omega) hS0
    refine aw_iload_n dX8_determinant_23 rfl ?_
    refine aw_aload_n dX8_determinant_24 rfl ?_
    refine aw_getIv (v := nI w) dX8_determinant_25 flX8_132 hM.o (by first | exact hw | (simp (disch := omega) only [aw_cp_off, aw_up_off, aw_wr_off, aw_fill_off, aw_fr_off]; exact hw)) ?_
    refine aw_geN (t := 53) dX8_determinant_28 (by decide) (by omega) (by omega) (fun h1 => ?_) (fun h1 => ?_)
    · skip
      rw [show c = w from by omega, pk_sub hL1]
      refine aw_lconst (v := 0) dX8_determinant_53 (by decide) ?_
      refine aw_lstore_n dX8_determinant_54 (by decide) ?_
      refine aw_lv (lv2 := [.ref _, .int _, .int _, .long _, .null, .null, .null, .null, .null]) rfl ?_
      refine aw_iload_n dX8_determinant_55 rfl ?_
      refine aw_toI (y := nI ((sp_mb (nI S) w).length - 1) - nI (sp_mb (nI S) 0).length) (bh_0 _) ?_
      refine aw_istore dX8_determinant_56 (by decide) ?_
      refine aw_lv (lv2 := [.ref _, .int _, .int _, .long _, .null, .int _, .null, .null, .null]) rfl ?_
      refine aw_iconst (v := nI 0) dX8_determinant_58 (by decide) ?_
      refine aw_pc (pc2 := 59) rfl ?_
      refine aw_istore dX8_determinant_59 (by decide) ?_
      refine aw_lv (lv2 := [.ref _, .int _, .int _, .long _, .null, .int _, .int _, .null, .null]) rfl ?_
      exact lX8_det3 hM hw hw6 hd hc hp hS0 hS hP kk (w + 1) 0 (by omega) (by omega)
    · skip
      refine aw_iload_n dX8_determinant_31 rfl ?_
      refine aw_iload_n dX8_determinant_32 rfl ?_
      refine aw_iload_n dX8_determinant_33 rfl ?_
      refine aw_csI (As := [_, _]) (d' := d - 1) dX8_determinant_34 lkX8_135 (by omega) rfl rfl (Nat.le_of_ble_eq_true rfl) ⟨Nat.le_refl _, Nat.le_refl _⟩ (tX8_has ?_)
      refine aw_if_eq (t := 44) dX8_determinant_37 (by decide) (fun h2 => ?_) (fun h2 => ?_)
      · skip
        refine aw_iconst (v := nI 0) dX8_determinant_44 (by decide) ?_
        refine aw_iadd dX8_determinant_45 ?_
        refine aw_istore_n dX8_determinant_46 (by decide) ?_
        refine aw_lv (lv2 := [.ref _, .int _, .int _, .int _, .null, .null, .null, .null, .null]) rfl ?_
        refine aw_iincN dX8_determinant_47 rfl (by decide) ?_
        refine aw_lv (lv2 := [.ref _, .int _, .int _, .int _, .null, .null, .null, .null, .null]) rfl ?_
        refine aw_goto (t := 23) dX8_determinant_50 (by decide) ?_
        have hb := (has_ok S (by omega) c (by omega)).mp h2
        have q9 := ih (c + 1) (by omega) (by omega)
        rw [sp_mb_f hb] at q9
        rw [bc_0]
        exact q9
      · skip
        refine aw_iconst (v := nI 1) dX8_determinant_40 (by decide) ?_
        refine aw_goto (t := 45) dX8_determinant_41 (by decide) ?_
        refine aw_iadd dX8_determinant_45 ?_
        refine aw_istore_n dX8_determinant_46 (by decide) ?_
        refine aw_lv (lv2 := [.ref _, .int _, .int _, .int _, .null, .null, .null, .null, .null]) rfl ?_
        refine aw_iincN dX8_determinant_47 rfl (by decide) ?_
        refine aw_lv (lv2 := [.ref _, .int _, .int _, .int _, .null, .null, .null, .null, .null]) rfl ?_
        refine aw_goto (t := 23) dX8_determinant_50 (by decide) ?_
        have hb : ¬ nI S >>> (nI c &&& 31) &&& nI 1 = 0 := fun q => h2 ((has_ok S (by omega) c (by omega)).mpr q)
        have q9 := ih (c + 1) (by omega) (by omega)
        rw [sp_mb_t hb, List.length_append] at q9
        rw [bc_1]
        exact q9
theorem lX8_det1 {G : aw_G} {d : Nat} {Ω : aw_O} {I : aw_MI} {Q : Int64 → aw_O → aw_MI → aw_MJ → Prop} {w : Nat} {cell : Nat → Nat → Int64} {pt : Nat → Int64} {J0 : aw_MJ} (hM : aw_model Ω 65) (hw : I 65 13 = nI w) (hw6 : w ≤ 6) (hd : 1 ≤ d) (hc : ∀ r c, r < w → c < w → J0 71 (6 * r + c) = cell r c) (hp : dp_ok cell pt w) (hQ : ∀ J', (∀ a, a ≠ 72 → J' a = J0 a) → Q (pt (2 ^ w - 1)) Ω I J') : ∀ (z S : Nat) (J : aw_MJ), 0 < S → S ≤ 2 ^ w → 2 ^ w - S < z → dq_P pt J0 J S → AW G MX8_determinant (aw_nx Ω) d 0 0 (aw_QL Q) Ω I J 0 0 [.ref (aw_ad G 65), .int (nI S), .null, .null, .null, .null, .null, .null, .null] 9 [] := by
  intro z
  induction z with
  | zero =>
    intro S J h0 h1 hz hP
    exact absurd hz (by omega)
  | succ z ih =>
    intro S J h0 h1 hz hP
    have h64 : 2 ^ w ≤ 2 ^ 6 := Nat.pow_le_pow_right (by decide) hw6
    have hpos : 0 < 2 ^ w := Nat.pos_of_ne_zero (by simp)
    refine aw_iload_n dX8_determinant_9 rfl ?_
    refine aw_iconst (v := nI 1) dX8_determinant_10 (by decide) ?_
    refine aw_aload_n dX8_determinant_11 rfl ?_
    refine aw_getIv (v := nI w) dX8_determinant_12 flX8_132 hM.o (by first | exact hw | (simp (disch := omega) only [aw_cp_off, aw_up_off, aw_wr_off, aw_fill_off, aw_fr_off]; exact hw)) ?_
    refine aw_ishl dX8_determinant_15 ?_
    refine aw_toI (sh_nI w (by omega)) ?_
    refine aw_pc (pc2 := 16) rfl ?_
    refine aw_geN (t := 147) dX8_determinant_16 (by decide) (by omega) (by omega) (fun h1 => ?_) (fun h1 => ?_)
    · skip
      refine aw_aload_n dX8_determinant_147 rfl ?_
      refine aw_getR dX8_determinant_148 flX8_33 hM.o hM.p15 ?_
      refine aw_iconst (v := nI 1) dX8_determinant_151 (by decide) ?_
      refine aw_aload_n dX8_determinant_152 rfl ?_
      refine aw_getIv (v := nI w) dX8_determinant_153 flX8_132 hM.o (by first | exact hw | (simp (disch := omega) only [aw_cp_off, aw_up_off, aw_wr_off, aw_fill_off, aw_fr_off]; exact hw)) ?_
      refine aw_pc (pc2 := 156) rfl ?_
      refine aw_ishl dX8_determinant_156 ?_
      refine aw_toI (sh_nI w (by omega)) ?_
      refine aw_iconst (v := nI 1) dX8_determinant_157 (by decide) ?_
      refine aw_isubN dX8_determinant_158 (by omega) ?_
      refine aw_laldv (v := pt ((2 ^ w) - 1)) dX8_determinant_159 hM.s15 rfl (by omega) (hP.2 _ (by omega)) ?_
      exact aw_lret dX8_determinant_160 rfl (hQ J hP.1) (Nat.zero_le _) (Nat.zero_le _)
    · skip
      refine aw_iconst (v := -1) dX8_determinant_19 (by decide) ?_
      refine aw_toI (y := nI (sp_mb (nI S) 0).length - nI 1) (by show (-1 : Int32) = nI 0 - nI 1; decide) ?_
      refine aw_istore_n dX8_determinant_20 (by decide) ?_
      refine aw_lv (lv2 := [.ref _, .int _, .int _, .null, .null, .null, .null, .null, .null]) rfl ?_
      refine aw_iconst (v := nI 0) dX8_determinant_21 (by decide) ?_
      refine aw_istore_n dX8_determinant_22 (by decide) ?_
      refine aw_lv (lv2 := [.ref _, .int _, .int _, .int _, .null, .null, .null, .null, .null]) rfl ?_
      exact lX8_det2 hM hw hw6 hd hc hp h0 (by omega) hP (fun J' hP' => ih (S + 1) J' (by omega) (by omega) (by omega) hP') (w + 1) 0 (by omega) (by omega)
theorem tX8_determinant {G : aw_G} {d : Nat} {Ω : aw_O} {I : aw_MI} {J : aw_MJ} {Q : Int64 → aw_O → aw_MI → aw_MJ → Prop} {w : Nat} {cell : Nat → Nat → Int64} {pt : Nat → Int64} (hM : aw_model Ω 65) (hw : I 65 13 = nI w) (hw6 : w ≤ 6) (hd : 1 ≤ d) (hc : ∀ r c, r < w → c < w → J 71 (6 * r + c) = cell r c) (hp : dp_ok cell pt w) (hQ : ∀ J', (∀ a, a ≠ 72 → J' a = J a) → Q (pt (2 ^ w - 1)) Ω I J') : aw_Call G MX8_determinant d 0 0 [.ref (aw_ad G 65)] Ω I J (aw_QL Q) := by
  refine aw_enter (by decide +kernel) rfl (Nat.le_of_ble_eq_true rfl) ?_
  show AW G MX8_determinant (aw_nx Ω) d 0 0 (aw_QL Q) Ω I J 0 0 [.ref (aw_ad G 65), .null, .null, .null, .null, .null, .null, .null, .null] 0 []
  refine aw_aload_n dX8_determinant_0 rfl ?_
  refine aw_getR dX8_determinant_1 flX8_33 hM.o hM.p15 ?_
  refine aw_iconst (v := nI 0) dX8_determinant_4 (by decide) ?_
  refine aw_lconst (v := 1) dX8_determinant_5 (by decide) ?_
  refine aw_last dX8_determinant_6 hM.s15 rfl (by omega) rfl ?_
  refine aw_pc (pc2 := 7) rfl ?_
  refine aw_iconst (v := nI 1) dX8_determinant_7 (by decide) ?_
  refine aw_istore_n dX8_determinant_8 (by decide) ?_
  refine aw_lv (lv2 := [.ref _, .int _, .null, .null, .null, .null, .null, .null, .null]) rfl ?_
  exact lX8_det1 (J0 := J) hM hw hw6 hd hc hp hQ (2 ^ w + 1) 1 _ (by omega) (Nat.pos_of_ne_zero (by simp)) (Nat.lt_succ_of_le (Nat.sub_le _ _)) (dq_s ⟨fun _ _ => rfl, fun S' h => absurd h (by omega)⟩ hp.1.symm)
def rp_minor (q : Nat → Int32) (k : Nat) : Int32 := Int32.ofInt (dt k (fun c r => (q (3 * r + c)).toInt))
def mq_P (cell : Nat → Nat → Int64) (J0 J : aw_MJ) (k i j : Nat) : Prop := (∀ r c, r < k → c < k → r < i ∨ (r = i ∧ c < j) → J 71 (6 * r + c) = cell r c) ∧ ∀ a, a ≠ 71 → J a = J0 a
theorem mq_s {cell : Nat → Nat → Int64} {J0 J : aw_MJ} {k i j : Nat} {v : Int64} (h : mq_P cell J0 J k i j) (hk : k ≤ 6) (hv : v = cell i j) (hi : i < k) (hj : j < k) : mq_P cell J0 (aw_up J 71 (6 * i + j) v) k i (j + 1) := by
  refine ⟨fun r c h1 h2 h3 => ?_, fun a ha => ?_⟩
  · by_cases e : r = i ∧ c = j
    · rw [e.1, e.2, aw_up_self, hv]
    · rw [aw_up_ne J _ (by omega), h.1 r c h1 h2 (by omega)]
  · rw [aw_up_off J _ ha, h.2 a ha]
theorem mq_n {cell : Nat → Nat → Int64} {J0 J : aw_MJ} {k i : Nat} (h : mq_P cell J0 J k i k) : mq_P cell J0 J k (i + 1) 0 := ⟨fun r c h1 h2 h3 => h.1 r c h1 h2 (by omega), h.2⟩
theorem lX8_minorOf2 {G : aw_G} {d : Nat} {Ω : aw_O} {I : aw_MI} {Q : Int32 → aw_O → aw_MI → aw_MJ → Prop} {k i : Nat} {J0 : aw_MJ} (hM : aw_model Ω 65) (hw : I 65 13 = nI k) (hk3 : k ≤ 3) (hd : 2 ≤ d) (hi : i < k) (kk : ∀ J', mq_P (fun r c => (I 66 (3 * r + c)).toInt64) J0 J' k (i + 1) 0 → AW G MX8_minorOf (aw_nx Ω) d 0 0 (aw_QI Q) Ω I J' 0 0 [.ref (aw_ad G 65), .int (nI k), .int (nI (i + 1)), .null] 7 []) : ∀ (z j : Nat) (J : aw_MJ), j ≤ k → k - j < z → mq_P (fun r c => (I 66 (3 * r + c)).toInt64) J0 J k i j → AW G MX8_minorOf (aw_nx Ω) d 0 0 (aw_QI Q) Ω I J 0 0 [.ref (aw_ad G 65), .int (nI k), .int (nI i), .int (nI j)] 14 [] := by
  intro z
  induction z with
  | zero =>
    intro j J h0 hz hP
    exact absurd hz (by omega)
  | succ z ih =>
    intro j J h0 hz hP
    refine aw_iload_n dX8_minorOf_14 rfl ?_
    refine aw_iload_n dX8_minorOf_15 rfl ?_
    refine aw_geN (t := 47) dX8_minorOf_16 (by decide) (by omega) (by omega) (fun h1 => ?_) (fun h1 => ?_)
    · skip
      refine aw_iincN dX8_minorOf_47 rfl (by decide) ?_
      refine aw_lv (lv2 := [.ref _, .int _, .int _, .int _]) rfl ?_
      refine aw_goto (t := 7) dX8_minorOf_50 (by decide) ?_
      refine aw_frg 3 ?_
      rw [show j = k from by omega] at hP
      exact kk _ (mq_n hP)
    · skip
      refine aw_aload_n dX8_minorOf_19 rfl ?_
      refine aw_getR dX8_minorOf_20 flX8_29 hM.o hM.p14 ?_
      refine aw_bipush (v := nI 6) dX8_minorOf_23 (by decide) ?_
      refine aw_iload_n dX8_minorOf_25 rfl ?_
      refine aw_imulN dX8_minorOf_26 ?_
      refine aw_pc (pc2 := 27) rfl ?_
      refine aw_iload_n dX8_minorOf_27 rfl ?_
      refine aw_iaddN dX8_minorOf_28 ?_
      refine aw_aload_n dX8_minorOf_29 rfl ?_
      refine aw_getR dX8_minorOf_30 flX8_13 hM.o hM.p1 ?_
      refine aw_iconst (v := nI 3) dX8_minorOf_33 (by decide) ?_
      refine aw_iload_n dX8_minorOf_34 rfl ?_
      refine aw_pc (pc2 := 35) rfl ?_
      refine aw_imulN dX8_minorOf_35 ?_
      refine aw_iload_n dX8_minorOf_36 rfl ?_
      refine aw_iaddN dX8_minorOf_37 ?_
      refine aw_iald dX8_minorOf_38 hM.s1 rfl (by omega) ?_
      refine aw_i2l dX8_minorOf_39 ?_
      refine aw_last dX8_minorOf_40 hM.s14 rfl (by omega) rfl ?_
      refine aw_pc (pc2 := 41) rfl ?_
      refine aw_iincN dX8_minorOf_41 rfl (by decide) ?_
      refine aw_lv (lv2 := [.ref _, .int _, .int _, .int _]) rfl ?_
      refine aw_goto (t := 14) dX8_minorOf_44 (by decide) ?_
      exact ih (j + 1) _ (by omega) (by omega) (mq_s hP (by omega) rfl hi (by omega))
theorem lX8_minorOf1 {G : aw_G} {d : Nat} {Ω : aw_O} {I : aw_MI} {Q : Int32 → aw_O → aw_MI → aw_MJ → Prop} {k : Nat} {J0 : aw_MJ} (hM : aw_model Ω 65) (hw : I 65 13 = nI k) (hk3 : k ≤ 3) (hd : 2 ≤ d) (hQ : ∀ J', (∀ a, a ≠ 71 → a ≠ 72 → J' a = J0 a) → Q (rp_minor (I 66) k) Ω I J') : ∀ (z i : Nat) (J : aw_MJ), i ≤ k → k - i < z → mq_P (fun r c => (I 66 (3 * r + c)).toInt64) J0 J k i 0 → AW G MX8_minorOf (aw_nx Ω) d 0 0 (aw_QI Q) Ω I J 0 0 [.ref (aw_ad G 65), .int (nI k), .int (nI i), .null] 7 [] := by
  intro z
  induction z with
  | zero =>
    intro i J h0 hz hP
    exact absurd hz (by omega)
  | succ z ih =>
    intro i J h0 hz hP
    refine aw_iload_n dX8_minorOf_7 rfl ?_
    refine aw_iload_n dX8_minorOf_8 rfl ?_
    refine aw_geN (t := 53) dX8_minorOf_9 (by decide) (by omega) (by omega) (fun h1 => ?_) (fun h1 => ?_)
    · skip
      refine aw_aload_n dX8_minorOf_53 rfl ?_
      refine aw_cvL (As := []) (d' := d - 1) dX8_minorOf_54 lkX8_139 hM.o (by omega) rfl rfl (Nat.le_of_ble_eq_true rfl) ⟨Nat.le_refl _, Nat.le_refl _⟩ (tX8_determinant (w := k) hM hw (by omega) (by omega) (fun r c h1 h2 => hP.1 r c h1 h2 (by omega)) (dp_dt (col := fun c r => (I 66 (3 * r + c)).toInt) (by omega) (fun r c _ _ => rfl)) ?_)
      · skip
        intro J2 r2
        refine aw_l2i dX8_minorOf_57 ?_
        exact aw_iret dX8_minorOf_58 rfl ((by have q9 := hQ J2 (fun a h1 h2 => by rw [r2 a h2, hP.2 a h1]); rw [rp_minor] at q9; rw [dp_full (by omega), Int64.toInt32_ofInt]; exact q9)) (Nat.zero_le _) (Nat.zero_le _)
    · skip
      refine aw_iconst (v := nI 0) dX8_minorOf_12 (by decide) ?_
      refine aw_istore_n dX8_minorOf_13 (by decide) ?_
      refine aw_lv (lv2 := [.ref _, .int _, .int _, .int _]) rfl ?_
      exact lX8_minorOf2 hM hw hk3 hd (by omega) (fun J' hP' => ih (i + 1) J' (by omega) (by omega) hP') (k + 1) 0 J (by omega) (by omega) hP
theorem tX8_minorOf {G : aw_G} {d : Nat} {Ω : aw_O} {I : aw_MI} {J : aw_MJ} {Q : Int32 → aw_O → aw_MI → aw_MJ → Prop} {k : Nat} (hM : aw_model Ω 65) (hk3 : k ≤ 3) (hd : 2 ≤ d) (hQ : ∀ J', (∀ a, a ≠ 71 → a ≠ 72 → J' a = J a) → Q (rp_minor (I 66) k) Ω (aw_up I 65 13 (nI k)) J') : aw_Call G MX8_minorOf d 0 0 [.ref (aw_ad G 65), .int (nI k)] Ω I J (aw_QI Q) := by
  refine aw_enter (by decide +kernel) rfl (Nat.le_of_ble_eq_true rfl) ?_
  show AW G MX8_minorOf (aw_nx Ω) d 0 0 (aw_QI Q) Ω I J 0 0 [.ref (aw_ad G 65), .int (nI k), .null, .null] 0 []
  refine aw_aload_n dX8_minorOf_0 rfl ?_
  refine aw_iload_n dX8_minorOf_1 rfl ?_
  refine aw_putI dX8_minorOf_2 fwX8_132 hM.o rfl ?_
  refine aw_iconst (v := nI 0) dX8_minorOf_5 (by decide) ?_
  refine aw_istore_n dX8_minorOf_6 (by decide) ?_
  refine aw_lv (lv2 := [.ref _, .int _, .int _, .null]) rfl ?_
  exact lX8_minorOf1 (J0 := J) hM (aw_up_self _ _ _ _) hk3 hd (fun J' h9 => hQ J' h9) (k + 1) 0 J (by omega) (by omega) ⟨fun r c _ _ h3 => absurd h3 (by omega), fun _ _ => rfl⟩
theorem rg_1n (x : Int32) (n : Nat) (hn : n ≤ 3) : sp_rng x.toInt64 1 (nI n).toInt64 = sp_lh x 1 n := rg_w x (nI 1) (nI n)
/-- the reference's own rows that a call may leave otherwise -/
def mr_I (I I' : aw_MI) : Prop := ∀ a k, ¬ (a = 65 ∧ k = 13) → ¬ a = 77 → I' a k = I a k
def mr_J (J J' : aw_MJ) : Prop := ∀ a k, ¬ (a = 71 ∨ a = 72 ∨ a = 73 ∨ a = 74 ∨ a = 75 ∨ a = 76 ∨ a = 78) → ¬ (a = 65 ∧ k = 18) → J' a k = J a k
theorem mr_I.rf {I : aw_MI} : mr_I I I := fun _ _ _ _ => rfl
theorem mr_J.rf {J : aw_MJ} : mr_J J J := fun _ _ _ _ => rfl
theorem mr_I.tr {I I' I2 : aw_MI} (h : mr_I I I') (g : mr_I I' I2) : mr_I I I2 := fun a k h1 h2 => (g a k h1 h2).trans (h a k h1 h2)
theorem mr_J.tr {J J' J2 : aw_MJ} (h : mr_J J J') (g : mr_J J' J2) : mr_J J J2 := fun a k h1 h2 => (g a k h1 h2).trans (h a k h1 h2)
theorem mr_I.row {I I' : aw_MI} (h : mr_I I I') {a : Nat} (h1 : a ≠ 65) (h2 : a ≠ 77) : I' a = I a := funext fun k => h a k (by omega) h2
theorem mr_r {I : aw_MI} {v : Int32} : mr_I I (aw_up I 65 13 v) := fun a k h1 _ => aw_up_ne I _ (by omega)
theorem mr_d {J J' : aw_MJ} (h : ∀ a, a ≠ 71 → a ≠ 72 → J' a = J a) : mr_J J J' := fun a k h1 _ => by rw [h a (by omega) (by omega)]

theorem tX8_minor {G : aw_G} {d : Nat} {Ω : aw_O} {I : aw_MI} {J : aw_MJ} {Q : Int32 → aw_O → aw_MI → aw_MJ → Prop} {n : Nat} {x : Int32} (hM : aw_model Ω 65) (hn : I 65 0 = nI n) (hn3 : n ≤ 3) (hd : 3 ≤ d) (kB : sp_lh x 1 n = 0 → Q (-2) Ω I J) (hQ : ∀ j I' J', x = nI j → 1 ≤ j → j ≤ n → mr_I I I' → mr_J J J' → Q (rp_minor (I 66) j) Ω I' J') : aw_Call G MX8_minor d 0 0 [.ref (aw_ad G 65), .int x] Ω I J (aw_QI Q) := by
  refine aw_enter (by decide +kernel) rfl (Nat.le_of_ble_eq_true rfl) ?_
  show AW G MX8_minor (aw_nx Ω) d 0 0 (aw_QI Q) Ω I J 0 0 [.ref (aw_ad G 65), .int x] 0 []
  refine aw_iload_n dX8_minor_0 rfl ?_
  refine aw_i2l dX8_minor_1 ?_
  refine aw_lconst (v := 1) dX8_minor_2 (by decide) ?_
  refine aw_aload_n dX8_minor_3 rfl ?_
  refine aw_getIv (v := nI n) dX8_minor_4 flX8_7 hM.o (by first | exact hn | (simp (disch := omega) only [aw_cp_off, aw_up_off, aw_wr_off, aw_fill_off, aw_fr_off]; exact hn)) ?_
  refine aw_pc (pc2 := 7) rfl ?_
  refine aw_i2l dX8_minor_7 ?_
  refine aw_csI (As := [_, _, _]) (d' := d - 1) dX8_minor_8 lkX8_84 (by omega) rfl rfl (Nat.le_of_ble_eq_true rfl) ⟨Nat.le_refl _, Nat.le_refl _⟩ (tX8_in ?_)
  refine aw_toI (rg_1n x n hn3) ?_
  refine aw_if_eq (t := 22) dX8_minor_11 (by decide) (fun h1 => ?_) (fun h1 => ?_)
  · skip
    refine aw_bipush (v := -2) dX8_minor_22 (by decide) ?_
    exact aw_iret dX8_minor_24 rfl (kB h1) (Nat.zero_le _) (Nat.zero_le _)
  · skip
    obtain ⟨j, rfl, j1, j3⟩ := sp_lh1 h1 (by decide) (by omega)
    refine aw_aload_n dX8_minor_14 rfl ?_
    refine aw_iload_n dX8_minor_15 rfl ?_
    refine aw_cvI (As := [_]) (d' := d - 1) dX8_minor_16 lkX8_143 hM.o (by omega) rfl rfl (Nat.le_of_ble_eq_true rfl) ⟨Nat.le_refl _, Nat.le_refl _⟩ (tX8_minorOf hM (by omega) (by omega) ?_)
    · skip
      intro J2 r2
      refine aw_goto (t := 24) dX8_minor_19 (by decide) ?_
      exact aw_iret dX8_minor_24 rfl (hQ j _ _ rfl j1 j3 mr_r (mr_d r2)) (Nat.zero_le _) (Nat.zero_le _)
def rp_ac (q : Nat → Int32) : Nat → Int32
  | 0 => nI 1
  | j + 1 => rp_ac q j &&& (if 0 < rp_minor q (j + 1) then nI 1 else nI 0)
theorem rp_ac01 (q : Nat → Int32) : ∀ j, rp_ac q j = 0 ∨ rp_ac q j = 1
  | 0 => Or.inr rfl
  | j + 1 => by
    unfold rp_ac
    rcases rp_ac01 q j with h | h <;> rw [h] <;> by_cases e : 0 < rp_minor q (j + 1)
    · rw [if_pos e]; exact Or.inl (by decide)
    · rw [if_neg e]; exact Or.inl (by decide)
    · rw [if_pos e]; exact Or.inr (by decide)
    · rw [if_neg e]; exact Or.inl (by decide)
theorem lX8_proper {G : aw_G} {d : Nat} {Ω : aw_O}  {Q : Int32 → aw_O → aw_MI → aw_MJ → Prop} {n : Nat} {I0 : aw_MI} {J0 : aw_MJ} (hM : aw_model Ω 65) (hn : I0 65 0 = nI n) (hn3 : n ≤ 3) (hd : 3 ≤ d) (hQ : ∀ I' J', mr_I I0 I' → mr_J J0 J' → Q (rp_ac (I0 66) n) Ω I' J') : ∀ (z j : Nat) (I : aw_MI) (J : aw_MJ), j ≤ n → n - j < z → mr_I I0 I → mr_J J0 J → AW G MX8_proper (aw_nx Ω) d 0 0 (aw_QI Q) Ω I J 0 0 [.ref (aw_ad G 65), .int (rp_ac (I0 66) j), .int (nI (j + 1))] 4 [] := by
  intro z
  induction z with
  | zero =>
    intro j I J h0 hz fI fJ
    exact absurd hz (by omega)
  | succ z ih =>
    intro j I J h0 hz fI fJ
    refine aw_iload_n dX8_proper_4 rfl ?_
    refine aw_aload_n dX8_proper_5 rfl ?_
    refine aw_getIv (v := nI n) dX8_proper_6 flX8_7 hM.o (by rw [fI 65 0 (by decide) (by decide)]; exact hn) ?_
    refine aw_gtN (t := 34) dX8_proper_9 (by decide) (by omega) (by omega) (fun h1 => ?_) (fun h1 => ?_)
    · skip
      refine aw_iload_n dX8_proper_34 rfl ?_
      exact aw_zret dX8_proper_35 rfl (rp_ac01 _ _) (by have q9 := hQ I J fI fJ; rw [show n = j from by omega] at q9; exact q9) (Nat.zero_le _) (Nat.zero_le _)
    · skip
      refine aw_iload_n dX8_proper_12 rfl ?_
      refine aw_aload_n dX8_proper_13 rfl ?_
      refine aw_iload_n dX8_proper_14 rfl ?_
      refine aw_cvI (As := [_]) (d' := d - 1) dX8_proper_15 lkX8_143 hM.o (by omega) rfl rfl (Nat.le_of_ble_eq_true rfl) ⟨Nat.le_refl _, Nat.le_refl _⟩ (tX8_minorOf hM (by omega) (by omega) ?_)
      · skip
        intro J2 r2
        refine aw_if_le (t := 25) dX8_proper_18 (by decide) (fun h2 => ?_) (fun h2 => ?_)
        · skip
          refine aw_iconst (v := nI 0) dX8_proper_25 (by decide) ?_
          refine aw_iand dX8_proper_26 ?_
          refine aw_istore_n dX8_proper_27 (by decide) ?_
          refine aw_lv (lv2 := [.ref _, .int _, .int _]) rfl ?_
          refine aw_iincN dX8_proper_28 rfl (by decide) ?_
          refine aw_lv (lv2 := [.ref _, .int _, .int _]) rfl ?_
          refine aw_goto (t := 4) dX8_proper_31 (by decide) ?_
          have hA : mr_I I0 (aw_up I 65 13 (nI (j + 1))) := fI.tr mr_r
          have q9 := ih (j + 1) (aw_up I 65 13 (nI (j + 1))) J2 (by omega) (by omega) hA (fJ.tr (mr_d r2))
          rw [rp_ac, if_neg (by have e9 := fI.row (a := 66) (by decide) (by decide); rw [← e9]; exact Int32.not_lt.mpr h2)] at q9
          exact q9
        · skip
          refine aw_iconst (v := nI 1) dX8_proper_21 (by decide) ?_
          refine aw_goto (t := 26) dX8_proper_22 (by decide) ?_
          refine aw_iand dX8_proper_26 ?_
          refine aw_istore_n dX8_proper_27 (by decide) ?_
          refine aw_lv (lv2 := [.ref _, .int _, .int _]) rfl ?_
          refine aw_iincN dX8_proper_28 rfl (by decide) ?_
          refine aw_lv (lv2 := [.ref _, .int _, .int _]) rfl ?_
          refine aw_goto (t := 4) dX8_proper_31 (by decide) ?_
          have hA : mr_I I0 (aw_up I 65 13 (nI (j + 1))) := fI.tr mr_r
          have q9 := ih (j + 1) (aw_up I 65 13 (nI (j + 1))) J2 (by omega) (by omega) hA (fJ.tr (mr_d r2))
          rw [rp_ac, if_pos (by have e9 := fI.row (a := 66) (by decide) (by decide); rw [← e9]; exact Int32.not_le.mp h2)] at q9
          exact q9
theorem tX8_proper {G : aw_G} {d : Nat} {Ω : aw_O} {I : aw_MI} {J : aw_MJ} {Q : Int32 → aw_O → aw_MI → aw_MJ → Prop} {n : Nat} (hM : aw_model Ω 65) (hn : I 65 0 = nI n) (hn3 : n ≤ 3) (hd : 3 ≤ d) (hQ : ∀ I' J', mr_I I I' → mr_J J J' → Q (rp_ac (I 66) n) Ω I' J') : aw_Call G MX8_proper d 0 0 [.ref (aw_ad G 65)] Ω I J (aw_QI Q) := by
  refine aw_enter (by decide +kernel) rfl (Nat.le_of_ble_eq_true rfl) ?_
  show AW G MX8_proper (aw_nx Ω) d 0 0 (aw_QI Q) Ω I J 0 0 [.ref (aw_ad G 65), .null, .null] 0 []
  refine aw_iconst (v := nI 1) dX8_proper_0 (by decide) ?_
  refine aw_istore_n dX8_proper_1 (by decide) ?_
  refine aw_lv (lv2 := [.ref _, .int _, .null]) rfl ?_
  refine aw_iconst (v := nI 1) dX8_proper_2 (by decide) ?_
  refine aw_istore_n dX8_proper_3 (by decide) ?_
  refine aw_lv (lv2 := [.ref _, .int _, .int _]) rfl ?_
  exact lX8_proper hM hn hn3 hd hQ (n + 1) 0 I J (by omega) (by omega) mr_I.rf mr_J.rf
theorem tX8_isProper {G : aw_G} {d : Nat} {Ω : aw_O} {I : aw_MI} {J : aw_MJ} {Q : Int32 → aw_O → aw_MI → aw_MJ → Prop} {n : Nat} (hM : aw_model Ω 65) (hn : I 65 0 = nI n) (hn3 : n ≤ 3) (hd : 4 ≤ d) (hQ : ∀ I' J', mr_I I I' → mr_J J J' → Q (rp_ac (I 66) n) Ω I' J') : aw_Call G MX8_isProper d 0 0 [.ref (aw_ad G 65)] Ω I J (aw_QI Q) := by
  refine aw_enter (by decide +kernel) rfl (Nat.le_of_ble_eq_true rfl) ?_
  show AW G MX8_isProper (aw_nx Ω) d 0 0 (aw_QI Q) Ω I J 0 0 [.ref (aw_ad G 65)] 0 []
  refine aw_aload_n dX8_isProper_0 rfl ?_
  refine aw_cvI (As := []) (d' := d - 1) dX8_isProper_1 lkX8_146 hM.o (by omega) rfl rfl (Nat.le_of_ble_eq_true rfl) ⟨Nat.le_refl _, Nat.le_refl _⟩ (tX8_proper hM hn hn3 (by omega) ?_)
  · skip
    intro I1 J1 fI fJ
    refine aw_if_eq (t := 11) dX8_isProper_4 (by decide) (fun h1 => ?_) (fun h1 => ?_)
    · skip
      refine aw_iconst (v := nI 0) dX8_isProper_11 (by decide) ?_
      have q9 := hQ I1 J1 fI fJ
      exact aw_iret dX8_isProper_12 rfl ((by rcases rp_ac01 (I 66) n with e9 | e9 <;> rw [e9] at q9 <;> first | exact q9 | exact absurd e9 h1 | (rw [e9] at h1; exact absurd h1 (by decide)))) (Nat.zero_le _) (Nat.zero_le _)
    · skip
      refine aw_iconst (v := nI 1) dX8_isProper_7 (by decide) ?_
      refine aw_goto (t := 12) dX8_isProper_8 (by decide) ?_
      have q9 := hQ I1 J1 fI fJ
      exact aw_iret dX8_isProper_12 rfl ((by rcases rp_ac01 (I 66) n with e9 | e9 <;> rw [e9] at q9 <;> first | exact q9 | exact absurd e9 h1 | (rw [e9] at h1; exact absurd h1 (by decide)))) (Nat.zero_le _) (Nat.zero_le _)

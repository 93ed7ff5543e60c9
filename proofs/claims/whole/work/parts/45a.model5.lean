/-! THE REFERENCE: finds, works -/
def rl_P (b : Nat → Int) (J0 J : aw_MJ) (i : Nat) : Prop := (∀ r, r < i → J 78 r = Int64.ofInt (b r)) ∧ ∀ a, a ≠ 78 → J a = J0 a
theorem rl_s {b : Nat → Int} {J0 J : aw_MJ} {i : Nat} {v : Int64} (h : rl_P b J0 J i) (hv : v = Int64.ofInt (b i)) : rl_P b J0 (aw_up J 78 i v) (i + 1) := by
  refine ⟨fun r hr => ?_, fun a ha => ?_⟩
  · by_cases e : r = i
    · rw [e, aw_up_self, hv]
    · rw [aw_up_ne J _ (Or.inr e), h.1 r (by omega)]
  · rw [aw_up_off J _ ha, h.2 a ha]
def rx_d (I : aw_MI) (n m S : Nat) : Int64 := Int64.ofInt (dt (n + cx_n S m) (rm_c I n (cx_mb S m)))
def rx_s (I : aw_MI) (n m S : Nat) : Int32 := if rx_d I n m S < 0 then nI 1 else nI 0
def rx_v (I : aw_MI) (n m S : Nat) (t : Int32) (c : Nat) : Int64 := te_f (rm_c I n (cx_mb S m)) (rm_b I n (cx_mb S m) t) (n + cx_n S m) (rx_s I n m S) c
def rx_u (I : aw_MI) (n m S : Nat) (c : Nat) : Int64 := te_f (rm_c I n (cx_mb S m)) (rm_u I n (cx_mb S m)) (n + cx_n S m) (rx_s I n m S) c
def rx_b (I : aw_MI) (n m S : Nat) : Int64 := sp_abs (rx_d I n m S)
def rx_y (I : aw_MI) (n m S : Nat) (t : Int32) (l : Nat) : Int64 := sp_wt (cx_mb S m) (fun j => rx_v I n m S t (n + j)) (cx_n S m) l
def rx_z (I : aw_MI) (n m S : Nat) (l : Nat) : Int64 := sp_wt (cx_mb S m) (fun j => rx_u I n m S (n + j)) (cx_n S m) l
def rx_ok (I : aw_MI) (n m S : Nat) : Prop := cx_n S m ≤ n ∧ ¬ rx_d I n m S = 0
def rx_At (I : aw_MI) (n m S : Nat) (t : Int32) (J : aw_MJ) : Prop := J 65 18 = rx_b I n m S ∧ (∀ i, i < n → J 73 i = rx_v I n m S t i) ∧ ∀ l, l < 6 → J 74 l = rx_y I n m S t l
/-- what the answers rest on -/
def rx_E (I I' : aw_MI) : Prop := I' 66 = I 66 ∧ I' 67 = I 67 ∧ I' 68 = I 68
theorem mr_I.E {I I' : aw_MI} (h : mr_I I I') : rx_E I I' := ⟨h.row (by decide) (by decide), h.row (by decide) (by decide), h.row (by decide) (by decide)⟩
theorem rx_d_c {I I' : aw_MI} {n m S : Nat} (h : rx_E I I') : rx_d I' n m S = rx_d I n m S := by
  unfold rx_d
  rw [rm_c_c h.2.2 h.1]
theorem rx_v_c {I I' : aw_MI} {n m S : Nat} {t : Int32} (h : rx_E I I') : rx_v I' n m S t = rx_v I n m S t := by
  funext c
  unfold rx_v rx_s
  rw [rx_d_c h, rm_c_c h.2.2 h.1, rm_b_c h.2.2 h.2.1]
theorem rx_u_c {I I' : aw_MI} {n m S : Nat} (h : rx_E I I') : rx_u I' n m S = rx_u I n m S := by
  funext c
  unfold rx_u rx_s
  rw [rx_d_c h, rm_c_c h.2.2 h.1, rm_u_c h.2.2]
theorem rx_y_c {I I' : aw_MI} {n m S : Nat} {t : Int32} (h : rx_E I I') : rx_y I' n m S t = rx_y I n m S t := by
  funext c
  unfold rx_y
  rw [rx_v_c h]
theorem rx_z_c {I I' : aw_MI} {n m S : Nat} (h : rx_E I I') : rx_z I' n m S = rx_z I n m S := by
  funext c
  unfold rx_z
  rw [rx_u_c h]
theorem rx_b_c {I I' : aw_MI} {n m S : Nat} (h : rx_E I I') : rx_b I' n m S = rx_b I n m S := by
  unfold rx_b
  rw [rx_d_c h]
theorem rx_ok_c {I I' : aw_MI} {n m S : Nat} (h : rx_E I I') : rx_ok I' n m S = rx_ok I n m S := by
  unfold rx_ok
  rw [rx_d_c h]
theorem rx_At_c {I I' : aw_MI} {n m S : Nat} {t : Int32} {J : aw_MJ} (h : rx_E I I') : rx_At I' n m S t J = rx_At I n m S t J := by
  unfold rx_At
  rw [rx_v_c h, rx_b_c h, rx_y_c h]
theorem cx_mb_lt {m S j : Nat} (hm : m ≤ 6) (hj : j < cx_n S m) : cx_mb S m j < 6 := Nat.lt_of_lt_of_le (sp_mb_lt hj) hm

theorem lX8_finds {G : aw_G} {d : Nat} {Ω : aw_O} {I : aw_MI} {Q : Int32 → aw_O → aw_MI → aw_MJ → Prop} {n k S : Nat} {mb : Nat → Nat} {det : Int64} {J0 : aw_MJ} (hM : aw_model Ω 65) (hn : I 65 0 = nI n) (hn3 : n ≤ 3) (hk : k ≤ n) (hw : I 65 13 = nI (n + k)) (hmb : ∀ j, j < k → I 77 j = nI (mb j) ∧ mb j < 6) (hc : ∀ r c, r < n + k → c < n + k → J0 71 (6 * r + c) = Int64.ofInt (rm_c I n mb c r)) (hd : 4 ≤ d) (hQ : ∀ J', (∀ i, i < n → J' 73 i = te_f (rm_c I n mb) (rm_b I n mb (I 65 3)) (n + k) (if det < 0 then nI 1 else nI 0) i) → (∀ l, l < 6 → J' 74 l = sp_wt mb (fun j => te_f (rm_c I n mb) (rm_b I n mb (I 65 3)) (n + k) (if det < 0 then nI 1 else nI 0) (n + j)) k l) → (∀ a, a ≠ 71 → a ≠ 72 → a ≠ 78 → a ≠ 73 → a ≠ 74 → J' a = J0 a) → Q (nI 1) Ω I J') : ∀ (z i : Nat) (J : aw_MJ), i ≤ n + k → n + k - i < z → rl_P (rm_b I n mb (I 65 3)) J0 J i → AW G MX8_finds (aw_nx Ω) d 0 0 (aw_QI Q) Ω I J 0 0 [.ref (aw_ad G 65), .int (nI S), .int (nI k), .long det, .null, .int (nI i)] 53 [] := by
  intro z
  induction z with
  | zero =>
    intro i J h0 hz hP
    exact absurd hz (by omega)
  | succ z ih =>
    intro i J h0 hz hP
    refine aw_iload dX8_finds_53 rfl ?_
    refine aw_aload_n dX8_finds_55 rfl ?_
    refine aw_getIv (v := nI (n + k)) dX8_finds_56 flX8_132 hM.o hw ?_
    refine aw_geN (t := 113) dX8_finds_59 (by decide) (by omega) (by omega) (fun h1 => ?_) (fun h1 => ?_)
    · skip
      refine aw_aload_n dX8_finds_113 rfl ?_
      refine aw_aload_n dX8_finds_114 rfl ?_
      refine aw_getR dX8_finds_115 flX8_36 hM.o hM.p16 ?_
      refine aw_aload_n dX8_finds_118 rfl ?_
      refine aw_getR dX8_finds_119 flX8_39 hM.o hM.p17 ?_
      refine aw_pc (pc2 := 122) rfl ?_
      refine aw_iload_n dX8_finds_122 rfl ?_
      refine aw_lload_n dX8_finds_123 rfl ?_
      refine aw_lconst (v := 0) dX8_finds_124 (by decide) ?_
      refine aw_lcmp dX8_finds_125 ?_
      refine aw_if_ge (t := 133) dX8_finds_126 (by decide) (fun h2 => ?_) (fun h2 => ?_)
      · skip
        refine aw_iconst (v := nI 0) dX8_finds_133 (by decide) ?_
        refine aw_cvV (As := [_, _, _, _]) (d' := d - 1) dX8_finds_134 lkX8_165 hM.o (by omega) rfl rfl (Nat.le_of_ble_eq_true rfl) ⟨Nat.le_refl _, Nat.le_refl _⟩ (tX8_tells (p := 73) (C := rm_c I n mb) (b := (rm_b I n mb (I 65 3))) (mb := mb) hM hM.s16 hM.s17 (by decide) hn hn3 hk hw hmb (by omega) ⟨fun r c h1 h2 => by rw [hP.2 71 (by decide)]; exact hc r c h1 h2, fun r h1 => hP.1 r (by omega)⟩ ?_)
        · skip
          intro J2 x2 y2 f2
          have f3 : ∀ a, a ≠ 71 → a ≠ 72 → a ≠ 78 → a ≠ 73 → a ≠ 74 → J2 a = J0 a := fun a b1 b2 b3 b4 b5 => by rw [f2 a b1 b2 b3 b4 b5, hP.2 a b3]
          refine aw_iconst (v := nI 1) dX8_finds_137 (by decide) ?_
          try simp only [lcmpE, lcmpL, lcmpG, lcmpLE, lcmpGT, nrm_le, nrm_le64, Classical.not_not] at h2
          exact aw_zret dX8_finds_138 rfl (by decide) (hQ J2 (fun i hi => by rw [if_neg h2]; exact x2 i hi) (fun l hl => by rw [if_neg h2]; exact y2 l hl) f3) (Nat.zero_le _) (Nat.zero_le _)
      · skip
        refine aw_iconst (v := nI 1) dX8_finds_129 (by decide) ?_
        refine aw_goto (t := 134) dX8_finds_130 (by decide) ?_
        refine aw_cvV (As := [_, _, _, _]) (d' := d - 1) dX8_finds_134 lkX8_165 hM.o (by omega) rfl rfl (Nat.le_of_ble_eq_true rfl) ⟨Nat.le_refl _, Nat.le_refl _⟩ (tX8_tells (p := 73) (C := rm_c I n mb) (b := (rm_b I n mb (I 65 3))) (mb := mb) hM hM.s16 hM.s17 (by decide) hn hn3 hk hw hmb (by omega) ⟨fun r c h1 h2 => by rw [hP.2 71 (by decide)]; exact hc r c h1 h2, fun r h1 => hP.1 r (by omega)⟩ ?_)
        · skip
          intro J2 x2 y2 f2
          have f3 : ∀ a, a ≠ 71 → a ≠ 72 → a ≠ 78 → a ≠ 73 → a ≠ 74 → J2 a = J0 a := fun a b1 b2 b3 b4 b5 => by rw [f2 a b1 b2 b3 b4 b5, hP.2 a b3]
          refine aw_iconst (v := nI 1) dX8_finds_137 (by decide) ?_
          try simp only [lcmpE, lcmpL, lcmpG, lcmpLE, lcmpGT, nrm_le, nrm_le64, Classical.not_not] at h2
          exact aw_zret dX8_finds_138 rfl (by decide) (hQ J2 (fun i hi => by rw [if_pos h2]; exact x2 i hi) (fun l hl => by rw [if_pos h2]; exact y2 l hl) f3) (Nat.zero_le _) (Nat.zero_le _)
    · skip
      refine aw_aload_n dX8_finds_62 rfl ?_
      refine aw_getR dX8_finds_63 flX8_51 hM.o hM.p22 ?_
      refine aw_iload dX8_finds_66 rfl ?_
      refine aw_iload dX8_finds_68 rfl ?_
      refine aw_aload_n dX8_finds_70 rfl ?_
      refine aw_pc (pc2 := 71) rfl ?_
      refine aw_getIv (v := nI n) dX8_finds_71 flX8_7 hM.o hn ?_
      refine aw_geN (t := 89) dX8_finds_74 (by decide) (by omega) (by omega) (fun h3 => ?_) (fun h3 => ?_)
      · skip
        refine aw_aload_n dX8_finds_89 rfl ?_
        refine aw_aload_n dX8_finds_90 rfl ?_
        refine aw_getR dX8_finds_91 flX8_48 hM.o hM.p21 ?_
        refine aw_iload dX8_finds_94 rfl ?_
        refine aw_aload_n dX8_finds_96 rfl ?_
        refine aw_pc (pc2 := 97) rfl ?_
        refine aw_getIv (v := nI n) dX8_finds_97 flX8_7 hM.o hn ?_
        refine aw_isubN dX8_finds_100 (by omega) ?_
        refine aw_ialdv (v := nI (mb (i - n))) dX8_finds_101 hM.s21 rfl (by omega) (hmb (i - n) (by omega)).1 ?_
        refine aw_cvI (As := [_]) (d' := d - 1) dX8_finds_102 lkX8_125 hM.o (by omega) rfl rfl (Nat.le_of_ble_eq_true rfl) ⟨Nat.le_refl _, Nat.le_refl _⟩ (tX8_bound hM (hmb _ (by omega)).2 ?_)
        refine aw_i2l dX8_finds_105 ?_
        refine aw_last dX8_finds_106 hM.s22 rfl (by omega) rfl ?_
        refine aw_pc (pc2 := 107) rfl ?_
        refine aw_iincN dX8_finds_107 rfl (by decide) ?_
        refine aw_lv (lv2 := [.ref _, .int _, .int _, .long _, .null, .int _]) rfl ?_
        refine aw_goto (t := 53) dX8_finds_110 (by decide) ?_
        exact ih (i + 1) _ (by omega) (by omega) (rl_s hP (by unfold rm_b; rw [if_neg (by omega)]; rfl))
      · skip
        refine aw_aload_n dX8_finds_77 rfl ?_
        refine aw_getR dX8_finds_78 flX8_17 hM.o hM.p2 ?_
        refine aw_iload dX8_finds_81 rfl ?_
        refine aw_iald dX8_finds_83 hM.s2 rfl (by omega) ?_
        refine aw_ineg dX8_finds_84 ?_
        refine aw_pc (pc2 := 85) rfl ?_
        refine aw_i2l dX8_finds_85 ?_
        refine aw_goto (t := 106) dX8_finds_86 (by decide) ?_
        refine aw_last dX8_finds_106 hM.s22 rfl (by omega) rfl ?_
        refine aw_iincN dX8_finds_107 rfl (by decide) ?_
        refine aw_lv (lv2 := [.ref _, .int _, .int _, .long _, .null, .int _]) rfl ?_
        refine aw_goto (t := 53) dX8_finds_110 (by decide) ?_
        exact ih (i + 1) _ (by omega) (by omega) (rl_s hP (by unfold rm_b; rw [if_pos (by omega)]; rfl))
theorem tX8_finds {G : aw_G} {d : Nat} {Ω : aw_O} {I : aw_MI} {J : aw_MJ} {Q : Int32 → aw_O → aw_MI → aw_MJ → Prop} {n m S : Nat} (hM : aw_model Ω 65) (hn : I 65 0 = nI n) (hn3 : n ≤ 3) (hm : I 65 4 = nI m) (hm6 : m ≤ 6) (hS : S < 2 ^ m) (hd : 4 ≤ d) (hF : ∀ I' J', mr_I I I' → mr_J J J' → ¬ rx_ok I n m S → Q (nI 0) Ω I' J') (hQ : ∀ I' J', mr_I I I' → mr_J J J' → rx_ok I n m S → rx_At I n m S (I 65 3) J' → Q (nI 1) Ω I' J') : aw_Call G MX8_finds d 0 0 [.ref (aw_ad G 65), .int (nI S)] Ω I J (aw_QI Q) := by
  refine aw_enter (by decide +kernel) rfl (Nat.le_of_ble_eq_true rfl) ?_
  show AW G MX8_finds (aw_nx Ω) d 0 0 (aw_QI Q) Ω I J 0 0 [.ref (aw_ad G 65), .int (nI S), .null, .null, .null, .null] 0 []
  refine aw_aload_n dX8_finds_0 rfl ?_
  refine aw_iload_n dX8_finds_1 rfl ?_
  refine aw_cvI (As := [_]) (d' := d - 1) dX8_finds_2 lkX8_154 hM.o (by omega) rfl rfl (Nat.le_of_ble_eq_true rfl) ⟨Nat.le_refl _, Nat.le_refl _⟩ (tX8_laysSome hM hm hm6 hS (by omega) ?_)
  · skip
    intro I1 a1 a2
    have m1 : mr_I I I1 := fun a k _ h2 => by rw [a1 a h2]
    have hn1 : I1 65 0 = nI n := by rw [a1 65 (by decide)]; exact hn
    have hk6 := Nat.le_trans (mb_le (nI S) m) hm6
    have hk6 : cx_n S m ≤ 6 := hk6
    have hmb : ∀ j, j < cx_n S m → I1 77 j = nI (cx_mb S m j) ∧ cx_mb S m j < 6 := fun j hj => ⟨a2 j hj, cx_mb_lt hm6 hj⟩
    have hE : rx_E I I1 := m1.E
    refine aw_istore_n dX8_finds_5 (by decide) ?_
    refine aw_lv (lv2 := [.ref _, .int _, .int _, .null, .null, .null]) rfl ?_
    refine aw_iload_n dX8_finds_6 rfl ?_
    refine aw_aload_n dX8_finds_7 rfl ?_
    refine aw_getIv (v := nI n) dX8_finds_8 flX8_7 hM.o (by first | exact hn1 | (simp (disch := omega) only [aw_cp_off, aw_up_off, aw_wr_off, aw_fill_off, aw_fr_off]; exact hn1)) ?_
    refine aw_leN (t := 16) dX8_finds_11 (by decide) (by omega) (by omega) (fun h1 => ?_) (fun h1 => ?_)
    · skip
      refine aw_aload_n dX8_finds_16 rfl ?_
      refine aw_iload_n dX8_finds_17 rfl ?_
      refine aw_cvV (As := [_]) (d' := d - 1) dX8_finds_18 lkX8_157 hM.o (by omega) rfl rfl (Nat.le_of_ble_eq_true rfl) ⟨Nat.le_refl _, Nat.le_refl _⟩ (tX8_laysCells (mb := cx_mb S m) hM hn1 hn3 (by omega) hmb (by omega) ?_)
      · skip
        intro J1 b1 b2
        have m2 : mr_I I (aw_up I1 65 13 (nI (n + cx_n S m))) := m1.tr mr_r
        have hE2 : rx_E I (aw_up I1 65 13 (nI (n + cx_n S m))) := m2.E
        have hn2 : (aw_up I1 65 13 (nI (n + cx_n S m))) 65 0 = nI n := by rw [aw_up_ne I1 _ (by decide)]; exact hn1
        have hw2 : (aw_up I1 65 13 (nI (n + cx_n S m))) 65 13 = nI (n + cx_n S m) := aw_up_self _ _ _ _
        have hmb2 : ∀ j, j < cx_n S m → (aw_up I1 65 13 (nI (n + cx_n S m))) 77 j = nI (cx_mb S m j) ∧ cx_mb S m j < 6 := fun j hj => by rw [aw_up_off I1 _ (by decide)]; exact hmb j hj
        have ht2 : (aw_up I1 65 13 (nI (n + cx_n S m))) 65 3 = I 65 3 := m2 65 3 (by decide) (by decide)
        have hC2 : rm_c (aw_up I1 65 13 (nI (n + cx_n S m))) n (cx_mb S m) = rm_c I n (cx_mb S m) := rm_c_c hE2.2.2 hE2.1
        rw [rm_c_c hE.2.2 hE.1] at b2
        refine aw_aload_n dX8_finds_21 rfl ?_
        refine aw_cvL (As := []) (d' := d - 1) dX8_finds_22 lkX8_139 hM.o (by omega) rfl rfl (Nat.le_of_ble_eq_true rfl) ⟨Nat.le_refl _, Nat.le_refl _⟩ (tX8_determinant (w := n + cx_n S m) (pt := dp_pt (rm_c I n (cx_mb S m)) (n + cx_n S m)) hM hw2 (by omega) (by omega) b2 (dp_dt (by omega) (fun r c _ _ => rfl)) ?_)
        · skip
          intro J2 r2
          refine aw_toL (y := rx_d I n m S) (dp_full (by omega)) ?_
          have j2 : mr_J J J2 := fun a k h1 h2 => by rw [r2 a (by omega), b1 a (by omega)]
          refine aw_lstore_n dX8_finds_25 (by decide) ?_
          refine aw_lv (lv2 := [.ref _, .int _, .int _, .long _, .null, .null]) rfl ?_
          refine aw_lload_n dX8_finds_26 rfl ?_
          refine aw_lconst (v := 0) dX8_finds_27 (by decide) ?_
          refine aw_lcmp dX8_finds_28 ?_
          refine aw_if_ne (t := 34) dX8_finds_29 (by decide) (fun h2 => ?_) (fun h2 => ?_)
          · skip
            refine aw_aload_n dX8_finds_34 rfl ?_
            refine aw_lload_n dX8_finds_35 rfl ?_
            refine aw_lconst (v := 0) dX8_finds_36 (by decide) ?_
            refine aw_lcmp dX8_finds_37 ?_
            refine aw_if_ge (t := 46) dX8_finds_38 (by decide) (fun h3 => ?_) (fun h3 => ?_)
            · skip
              refine aw_lload_n dX8_finds_46 rfl ?_
              refine aw_putJ dX8_finds_47 fwX8_161 hM.o rfl ?_
              refine aw_iconst (v := nI 0) dX8_finds_50 (by decide) ?_
              refine aw_istore dX8_finds_51 (by decide) ?_
              refine aw_lv (lv2 := [.ref _, .int _, .int _, .long _, .null, .int _]) rfl ?_
              try simp only [lcmpE, lcmpL, lcmpG, lcmpLE, lcmpGT, nrm_le, nrm_le64, Classical.not_not] at h2
              try simp only [lcmpE, lcmpL, lcmpG, lcmpLE, lcmpGT, nrm_le, nrm_le64, Classical.not_not] at h3
              have hab : (aw_up J2 65 18 (rx_d I n m S)) 65 18 = rx_b I n m S := by rw [aw_up_self]; unfold rx_b sp_abs; rw [if_neg h3]
              refine lX8_finds (J0 := aw_up J2 65 18 (rx_d I n m S)) (mb := cx_mb S m) hM hn2 hn3 (by omega) hw2 hmb2 (fun r c h1 h2 => by rw [aw_up_off J2 _ (by decide), r2 71 (by decide), hC2]; exact b2 r c h1 h2) hd (fun J3 x3 y3 f3 => ?_) (n + cx_n S m + 1) 0 _ (by omega) (by omega) ⟨fun r h1 => absurd h1 (by omega), fun _ _ => rfl⟩
              rw [ht2, rm_b_c hE2.2.2 hE2.2.1, hC2] at x3 y3
              exact hQ _ J3 m2 (fun a k h1 h2 => by rw [f3 a (by omega) (by omega) (by omega) (by omega) (by omega), aw_up_ne J2 _ (by omega)]; exact j2 a k h1 h2) ⟨by omega, h2⟩ ⟨by rw [f3 65 (by decide) (by decide) (by decide) (by decide) (by decide)]; exact hab, x3, y3⟩
            · skip
              refine aw_lload_n dX8_finds_41 rfl ?_
              refine aw_lneg dX8_finds_42 ?_
              refine aw_goto (t := 47) dX8_finds_43 (by decide) ?_
              refine aw_putJ dX8_finds_47 fwX8_161 hM.o rfl ?_
              refine aw_iconst (v := nI 0) dX8_finds_50 (by decide) ?_
              refine aw_istore dX8_finds_51 (by decide) ?_
              refine aw_lv (lv2 := [.ref _, .int _, .int _, .long _, .null, .int _]) rfl ?_
              try simp only [lcmpE, lcmpL, lcmpG, lcmpLE, lcmpGT, nrm_le, nrm_le64, Classical.not_not] at h2
              try simp only [lcmpE, lcmpL, lcmpG, lcmpLE, lcmpGT, nrm_le, nrm_le64, Classical.not_not] at h3
              have hab : (aw_up J2 65 18 (-rx_d I n m S)) 65 18 = rx_b I n m S := by rw [aw_up_self]; unfold rx_b sp_abs; rw [if_pos h3]
              refine lX8_finds (J0 := aw_up J2 65 18 (-rx_d I n m S)) (mb := cx_mb S m) hM hn2 hn3 (by omega) hw2 hmb2 (fun r c h1 h2 => by rw [aw_up_off J2 _ (by decide), r2 71 (by decide), hC2]; exact b2 r c h1 h2) hd (fun J3 x3 y3 f3 => ?_) (n + cx_n S m + 1) 0 _ (by omega) (by omega) ⟨fun r h1 => absurd h1 (by omega), fun _ _ => rfl⟩
              rw [ht2, rm_b_c hE2.2.2 hE2.2.1, hC2] at x3 y3
              exact hQ _ J3 m2 (fun a k h1 h2 => by rw [f3 a (by omega) (by omega) (by omega) (by omega) (by omega), aw_up_ne J2 _ (by omega)]; exact j2 a k h1 h2) ⟨by omega, h2⟩ ⟨by rw [f3 65 (by decide) (by decide) (by decide) (by decide) (by decide)]; exact hab, x3, y3⟩
          · skip
            refine aw_iconst (v := nI 0) dX8_finds_32 (by decide) ?_
            exact aw_zret dX8_finds_33 rfl (by decide) (hF _ J2 m2 j2 (fun q => q.2 (lcmpE.mp h2))) (Nat.zero_le _) (Nat.zero_le _)
    · skip
      refine aw_iconst (v := nI 0) dX8_finds_14 (by decide) ?_
      exact aw_zret dX8_finds_15 rfl (by decide) (hF I1 J m1 mr_J.rf (fun q => absurd q.1 (by omega))) (Nat.zero_le _) (Nat.zero_le _)

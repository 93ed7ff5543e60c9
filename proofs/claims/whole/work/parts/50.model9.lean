/-! THE REFERENCE: reach -/
theorem neg_min {u : Int64} (h : ¬ u = Int64.minValue) : ¬ -u = Int64.minValue := fun q => h (by
  have : u = -Int64.minValue := by rw [← q]; grind
  rw [this]
  decide)
theorem rb_trip {I : aw_MI} {J : aw_MJ} {p : rb_S} (h1 : I 65 25 = p.1) (h2 : J 65 26 = p.2.1) (h3 : J 65 27 = p.2.2) : (I 65 25, J 65 26, J 65 27) = p := by rw [h1, h2, h3]

theorem lX8_reach3 {G : aw_G} {d : Nat} {Ω : aw_O} {I : aw_MI} {J : aw_MJ} {Q : Int64 → aw_O → aw_MI → aw_MJ → Prop} {n m w l : Nat} {t x : Int32} {p : rb_S} {I0 : aw_MI} {J0 : aw_MJ} (hM : aw_model Ω 65) (hn : I0 65 0 = nI n) (hn3 : n ≤ 3) (hm : I0 65 4 = nI m) (hm6 : m ≤ 6) (ht : I0 65 3 = t) (hl : l < m) (hP : rr_P I0 J0 n m w t I J p) (hk : rr_ok p) (hv1 : ¬ rx_mv I0 n m w l = Int64.minValue) (hv2 : ¬ rx_z I0 n m w l = Int64.minValue) (hd : 150 ≤ d) (kk : ∀ I' J' p', (if sp_on (I0 68 (6 * l)) = 0 then rb_lim (rb_lim p (rx_sl I0 n m w t l) (rx_mv I0 n m w l)) (rx_y I0 n m w t l) (rx_z I0 n m w l) else rb_lim (rb_lim p (rx_sl I0 n m w t l) (rx_mv I0 n m w l)) (-rx_sl I0 n m w t l) (-rx_mv I0 n m w l)) = p' → rr_P I0 J0 n m w t I' J' p' → rr_ok p' → AW G MX8_reach (aw_nx Ω) d 0 0 (aw_QL Q) Ω I' J' 0 0 [.ref (aw_ad G 65), .int x, .int (nI w), .int (nI (l + 1)), .null, .null, .null] 57 []) : AW G MX8_reach (aw_nx Ω) d 0 0 (aw_QL Q) Ω I J 0 0 [.ref (aw_ad G 65), .int x, .int (nI w), .int (nI l), .long (rx_mv I0 n m w l), .null, .null] 117 [] := by
  have hn1 : I 65 0 = nI n := by rw [hP.1 65 0 (by decide) (by decide)]; exact hn
  have ht1 : I 65 3 = t := by rw [hP.1 65 3 (by decide) (by decide)]; exact ht
  have hE1 := hP.1.E
  refine aw_aload_n dX8_reach_117 rfl ?_
  refine aw_aload_n dX8_reach_118 rfl ?_
  refine aw_iload_n dX8_reach_119 rfl ?_
  refine aw_cvL (As := [_]) (d' := d - 1) dX8_reach_120 lkX8_172 hM.o (by omega) rfl rfl (Nat.le_of_ble_eq_true rfl) ⟨Nat.le_refl _, Nat.le_refl _⟩ (tX8_slackOf hM hn1 hn3 (by omega) (by omega) ?_)
  refine aw_toL (rp_slk_at hE1 ht1 hP.2.2.1) ?_
  refine aw_lload dX8_reach_123 rfl ?_
  refine aw_pc (pc2 := 125) rfl ?_
  refine aw_cvV (As := [_, _]) (d' := d - 1) dX8_reach_125 lkX8_236 hM.o (by omega) rfl rfl (Nat.le_of_ble_eq_true rfl) ⟨Nat.le_refl _, Nat.le_refl _⟩ (tX8_bounds hM (fun hu hf => lesT_140 (neg_pos64 hu hv1) (by rw [hP.2.2.2.2.2.2.2]; exact hk (by rw [← hP.2.2.2.2.2.1]; exact hf))) (by omega) ?_)
  · skip
    intro I1 J1 p1 e1 g1
    rw [rb_trip hP.2.2.2.2.2.1 hP.2.2.2.2.2.2.1 hP.2.2.2.2.2.2.2] at e1
    have hP1 := rr_s hP g1
    have hk1 : rr_ok p1 := by rw [← e1]; exact rr_lim hk hv1
    have hn2 : I1 65 0 = nI n := by rw [hP1.1 65 0 (by decide) (by decide)]; exact hn
    have ht2 : I1 65 3 = t := by rw [hP1.1 65 3 (by decide) (by decide)]; exact ht
    have hE2 := hP1.1.E
    refine aw_aload_n dX8_reach_128 rfl ?_
    refine aw_iload_n dX8_reach_129 rfl ?_
    refine aw_cvI (As := [_]) (d' := d - 1) dX8_reach_130 lkX8_175 hM.o (by omega) rfl rfl (Nat.le_of_ble_eq_true rfl) ⟨Nat.le_refl _, Nat.le_refl _⟩ (tX8_isOn hM (by omega) ?_)
    rw [hE2.2.2]
    refine aw_if_eq (t := 152) dX8_reach_133 (by decide) (fun h1 => ?_) (fun h1 => ?_)
    · skip
      refine aw_aload_n dX8_reach_152 rfl ?_
      refine aw_aload_n dX8_reach_153 rfl ?_
      refine aw_getR dX8_reach_154 flX8_39 hM.o hM.p17 ?_
      refine aw_iload_n dX8_reach_157 rfl ?_
      refine aw_laldv (v := rx_y I0 n m w t l) dX8_reach_158 hM.s17 rfl (by omega) (hP1.2.2.1.2.2 l (by omega)) ?_
      refine aw_pc (pc2 := 159) rfl ?_
      refine aw_aload_n dX8_reach_159 rfl ?_
      refine aw_getR dX8_reach_160 flX8_45 hM.o hM.p20 ?_
      refine aw_iload_n dX8_reach_163 rfl ?_
      refine aw_laldv (v := rx_z I0 n m w l) dX8_reach_164 hM.s20 rfl (by omega) (hP1.2.2.2.2.1 l (by omega)) ?_
      refine aw_cvV (As := [_, _]) (d' := d - 1) dX8_reach_165 lkX8_236 hM.o (by omega) rfl rfl (Nat.le_of_ble_eq_true rfl) ⟨Nat.le_refl _, Nat.le_refl _⟩ (tX8_bounds hM (fun hu hf => lesT_140 (neg_pos64 hu hv2) (by rw [hP1.2.2.2.2.2.2.2]; exact hk1 (by rw [← hP1.2.2.2.2.2.1]; exact hf))) (by omega) ?_)
      · skip
        intro I2 J2 p2 e2 g2
        rw [rb_trip hP1.2.2.2.2.2.1 hP1.2.2.2.2.2.2.1 hP1.2.2.2.2.2.2.2] at e2
        have hP2 := rr_s hP1 g2
        have hk2 : rr_ok p2 := by rw [← e2]; exact rr_lim hk1 hv2
        refine aw_iincN dX8_reach_168 rfl (by decide) ?_
        refine aw_lv (lv2 := [.ref _, .int _, .int _, .int _, .long _, .null, .null]) rfl ?_
        refine aw_goto (t := 57) dX8_reach_171 (by decide) ?_
        refine aw_frg 4 ?_
        exact kk I2 J2 p2 (by rw [if_pos h1, e1, e2]) hP2 hk2
    · skip
      refine aw_aload_n dX8_reach_136 rfl ?_
      refine aw_aload_n dX8_reach_137 rfl ?_
      refine aw_iload_n dX8_reach_138 rfl ?_
      refine aw_cvL (As := [_]) (d' := d - 1) dX8_reach_139 lkX8_172 hM.o (by omega) rfl rfl (Nat.le_of_ble_eq_true rfl) ⟨Nat.le_refl _, Nat.le_refl _⟩ (tX8_slackOf hM hn2 hn3 (by omega) (by omega) ?_)
      refine aw_toL (rp_slk_at hE2 ht2 hP1.2.2.1) ?_
      refine aw_lneg dX8_reach_142 ?_
      refine aw_pc (pc2 := 143) rfl ?_
      refine aw_lload dX8_reach_143 rfl ?_
      refine aw_lneg dX8_reach_145 ?_
      refine aw_cvV (As := [_, _]) (d' := d - 1) dX8_reach_146 lkX8_236 hM.o (by omega) rfl rfl (Nat.le_of_ble_eq_true rfl) ⟨Nat.le_refl _, Nat.le_refl _⟩ (tX8_bounds hM (fun hu hf => lesT_140 (neg_pos64 hu (neg_min hv1)) (by rw [hP1.2.2.2.2.2.2.2]; exact hk1 (by rw [← hP1.2.2.2.2.2.1]; exact hf))) (by omega) ?_)
      · skip
        intro I2 J2 p2 e2 g2
        rw [rb_trip hP1.2.2.2.2.2.1 hP1.2.2.2.2.2.2.1 hP1.2.2.2.2.2.2.2] at e2
        have hP2 := rr_s hP1 g2
        have hk2 : rr_ok p2 := by rw [← e2]; exact rr_lim hk1 (neg_min hv1)
        refine aw_goto (t := 168) dX8_reach_149 (by decide) ?_
        refine aw_iincN dX8_reach_168 rfl (by decide) ?_
        refine aw_lv (lv2 := [.ref _, .int _, .int _, .int _, .long _, .null, .null]) rfl ?_
        refine aw_goto (t := 57) dX8_reach_171 (by decide) ?_
        refine aw_frg 4 ?_
        exact kk I2 J2 p2 (by rw [if_neg h1, e1, e2]) hP2 hk2
theorem lX8_reach2 {G : aw_G} {d : Nat} {Ω : aw_O} {I : aw_MI} {J : aw_MJ} {Q : Int64 → aw_O → aw_MI → aw_MJ → Prop} {n m w l : Nat} {t x : Int32} {p : rb_S} {I0 : aw_MI} {J0 : aw_MJ} (hM : aw_model Ω 65) (hn : I0 65 0 = nI n) (hn3 : n ≤ 3) (hm : I0 65 4 = nI m) (hm6 : m ≤ 6) (ht : I0 65 3 = t) (hl : l < m) (hP : rr_P I0 J0 n m w t I J p) (hd : 1 ≤ d) (kk : AW G MX8_reach (aw_nx Ω) d 0 0 (aw_QL Q) Ω I J 0 0 [.ref (aw_ad G 65), .int x, .int (nI w), .int (nI l), .long (rx_mv I0 n m w l), .null, .null] 117 []) : ∀ (z i : Nat), i ≤ n → n - i < z → AW G MX8_reach (aw_nx Ω) d 0 0 (aw_QL Q) Ω I J 0 0 [.ref (aw_ad G 65), .int x, .int (nI w), .int (nI l), .long (sp_left (rp_ri I0 l) (rx_b I0 n m w) (fun i => rp_row I0 n l i) (rx_u I0 n m w) i), .null, .int (nI i)] 81 [] := by
  intro z
  induction z with
  | zero =>
    intro i h0 hz
    exact absurd hz (by omega)
  | succ z ih =>
    intro i h0 hz
    have hn1 : I 65 0 = nI n := by rw [hP.1 65 0 (by decide) (by decide)]; exact hn
    have ht1 : I 65 3 = t := by rw [hP.1 65 3 (by decide) (by decide)]; exact ht
    have hE1 := hP.1.E
    refine aw_iload dX8_reach_81 rfl ?_
    refine aw_aload_n dX8_reach_83 rfl ?_
    refine aw_getIv (v := nI n) dX8_reach_84 flX8_7 hM.o hn1 ?_
    refine aw_geN (t := 117) dX8_reach_87 (by decide) (by omega) (by omega) (fun h1 => ?_) (fun h1 => ?_)
    · skip
      rw [show i = n from by omega]
      refine aw_frg 6 ?_
      exact kk
    · skip
      refine aw_lload dX8_reach_90 rfl ?_
      refine aw_aload_n dX8_reach_92 rfl ?_
      refine aw_iload_n dX8_reach_93 rfl ?_
      refine aw_iload dX8_reach_94 rfl ?_
      refine aw_cvI (As := [_, _]) (d' := d - 1) dX8_reach_96 lkX8_129 hM.o (by omega) rfl rfl (Nat.le_of_ble_eq_true rfl) ⟨Nat.le_refl _, Nat.le_refl _⟩ (tX8_row hM hn1 hn3 (by omega) (by omega) ?_)
      rw [rp_row_c hE1.2.2]
      refine aw_pc (pc2 := 99) rfl ?_
      refine aw_i2l dX8_reach_99 ?_
      refine aw_aload_n dX8_reach_100 rfl ?_
      refine aw_getR dX8_reach_101 flX8_42 hM.o hM.p19 ?_
      refine aw_iload dX8_reach_104 rfl ?_
      refine aw_laldv (v := rx_u I0 n m w i) dX8_reach_106 hM.s19 rfl (by omega) (hP.2.2.2.1 i (by omega)) ?_
      refine aw_lmul dX8_reach_107 ?_
      refine aw_pc (pc2 := 108) rfl ?_
      refine aw_lsub dX8_reach_108 ?_
      refine aw_lstore dX8_reach_109 (by decide) ?_
      refine aw_lv (lv2 := [.ref _, .int _, .int _, .int _, .long _, .null, .int _]) rfl ?_
      refine aw_iincN dX8_reach_111 rfl (by decide) ?_
      refine aw_lv (lv2 := [.ref _, .int _, .int _, .int _, .long _, .null, .int _]) rfl ?_
      refine aw_goto (t := 81) dX8_reach_114 (by decide) ?_
      exact ih (i + 1) (by omega) (by omega)
theorem lX8_reach1 {G : aw_G} {d : Nat} {Ω : aw_O}  {Q : Int64 → aw_O → aw_MI → aw_MJ → Prop} {n m w : Nat} {t x : Int32} {a0 b0 : Int64} {I0 : aw_MI} {J0 : aw_MJ} (hM : aw_model Ω 65) (hn : I0 65 0 = nI n) (hn3 : n ≤ 3) (hm : I0 65 4 = nI m) (hm6 : m ≤ 6) (ht : I0 65 3 = t) (hv : ∀ l, l < m → ¬ rx_mv I0 n m w l = Int64.minValue ∧ ¬ rx_z I0 n m w l = Int64.minValue) (hd : 150 ≤ d) (kZ : ∀ I' J', rr_F I0 I' → rr_J J0 J' → (rr_X I0 n m w t a0 b0 m).1 = 0 → Q (-4611686018427387904 + (-1 : Int32).toInt64) Ω I' J') (hQ : ∀ I' J', rr_F I0 I' → rr_J J0 J' → ¬ (rr_X I0 n m w t a0 b0 m).1 = 0 → Q (lw_v (rr_X I0 n m w t a0 b0 m).2.1 (rr_X I0 n m w t a0 b0 m).2.2 x) Ω I' J') : ∀ (z l : Nat) (I : aw_MI) (J : aw_MJ), l ≤ m → m - l < z → rr_P I0 J0 n m w t I J (rr_X I0 n m w t a0 b0 l) → rr_ok (rr_X I0 n m w t a0 b0 l) → AW G MX8_reach (aw_nx Ω) d 0 0 (aw_QL Q) Ω I J 0 0 [.ref (aw_ad G 65), .int x, .int (nI w), .int (nI l), .null, .null, .null] 57 [] := by
  intro z
  induction z with
  | zero =>
    intro l I J h0 hz hP hk
    exact absurd hz (by omega)
  | succ z ih =>
    intro l I J h0 hz hP hk
    have hn1 : I 65 0 = nI n := by rw [hP.1 65 0 (by decide) (by decide)]; exact hn
    have ht1 : I 65 3 = t := by rw [hP.1 65 3 (by decide) (by decide)]; exact ht
    have hE1 := hP.1.E
    have hm1 : I 65 4 = nI m := by rw [hP.1 65 4 (by decide) (by decide)]; exact hm
    refine aw_iload_n dX8_reach_57 rfl ?_
    refine aw_aload_n dX8_reach_58 rfl ?_
    refine aw_getIv (v := nI m) dX8_reach_59 flX8_88 hM.o hm1 ?_
    refine aw_geN (t := 174) dX8_reach_62 (by decide) (by omega) (by omega) (fun h1 => ?_) (fun h1 => ?_)
    · skip
      refine aw_aload_n dX8_reach_174 rfl ?_
      refine aw_getZ dX8_reach_175 flX8_223 hM.o ?_
      refine aw_if_eq (t := 196) dX8_reach_178 (by decide) (fun h2 => ?_) (fun h2 => ?_)
      · skip
        refine aw_iconst (v := -1) dX8_reach_196 (by decide) ?_
        refine aw_csL (As := [_]) (d' := d - 1) dX8_reach_197 lkX8_200 (by omega) rfl rfl (Nat.le_of_ble_eq_true rfl) ⟨Nat.le_refl _, Nat.le_refl _⟩ (tX8_refused ?_)
        rw [show l = m from by omega] at hP
        exact aw_lret dX8_reach_200 rfl (kZ I J hP.1 hP.2.1 (by rw [← hP.2.2.2.2.2.1]; exact h2)) (Nat.zero_le _) (Nat.zero_le _)
      · skip
        refine aw_aload_n dX8_reach_181 rfl ?_
        refine aw_getJ dX8_reach_182 flX8_227 hM.o ?_
        rw [show l = m from by omega] at hP hk
        refine aw_toL hP.2.2.2.2.2.2.1 ?_
        refine aw_aload_n dX8_reach_185 rfl ?_
        refine aw_getJ dX8_reach_186 flX8_230 hM.o ?_
        refine aw_toL hP.2.2.2.2.2.2.2 ?_
        refine aw_iload_n dX8_reach_189 rfl ?_
        refine aw_pc (pc2 := 190) rfl ?_
        refine aw_csL (As := [_, _, _]) (d' := d - 1) dX8_reach_190 lkX8_203 (by omega) rfl rfl (Nat.le_of_ble_eq_true rfl) ⟨Nat.le_refl _, Nat.le_refl _⟩ (tX8_low (pos64ne (hk (by rw [← hP.2.2.2.2.2.1]; exact h2))) (by omega) ?_)
        refine aw_goto (t := 200) dX8_reach_193 (by decide) ?_
        exact aw_lret dX8_reach_200 rfl (hQ I J hP.1 hP.2.1 (by rw [← hP.2.2.2.2.2.1]; exact h2)) (Nat.zero_le _) (Nat.zero_le _)
    · skip
      refine aw_aload_n dX8_reach_65 rfl ?_
      refine aw_iload_n dX8_reach_66 rfl ?_
      refine aw_cvI (As := [_]) (d' := d - 1) dX8_reach_67 lkX8_169 hM.o (by omega) rfl rfl (Nat.le_of_ble_eq_true rfl) ⟨Nat.le_refl _, Nat.le_refl _⟩ (tX8_rise hM (by omega) ?_)
      rw [rp_ri_c hE1.2.2]
      refine aw_i2l dX8_reach_70 ?_
      refine aw_aload_n dX8_reach_71 rfl ?_
      refine aw_pc (pc2 := 72) rfl ?_
      refine aw_getJ dX8_reach_72 flX8_161 hM.o ?_
      refine aw_toL hP.2.2.1.1 ?_
      refine aw_lmul dX8_reach_75 ?_
      refine aw_lstore dX8_reach_76 (by decide) ?_
      refine aw_lv (lv2 := [.ref _, .int _, .int _, .int _, .long _, .null, .null]) rfl ?_
      refine aw_iconst (v := nI 0) dX8_reach_78 (by decide) ?_
      refine aw_istore dX8_reach_79 (by decide) ?_
      refine aw_lv (lv2 := [.ref _, .int _, .int _, .int _, .long _, .null, .int _]) rfl ?_
      refine lX8_reach2 (I0 := I0) (J0 := J0) (t := t) hM hn hn3 hm hm6 ht (by omega) hP (by omega) ?_ (n + 1) 0 (by omega) (by omega)
      exact lX8_reach3 (I0 := I0) (J0 := J0) (t := t) hM hn hn3 hm hm6 ht (by omega) hP hk (hv l (by omega)).1 (hv l (by omega)).2 hd (fun I' J' p' ep hP' hk' => ih (l + 1) I' J' (by omega) (by omega) (by rw [show (rr_X I0 n m w t a0 b0 (l + 1)) = p' from ep]; exact hP') (by rw [show (rr_X I0 n m w t a0 b0 (l + 1)) = p' from ep]; exact hk'))
theorem tX8_reach {G : aw_G} {d : Nat} {Ω : aw_O} {I : aw_MI} {J : aw_MJ} {Q : Int64 → aw_O → aw_MI → aw_MJ → Prop} {n m : Nat} (hM : aw_model Ω 65) (hn : I 65 0 = nI n) (hn3 : n ≤ 3) (hm : I 65 4 = nI m) (hm6 : m ≤ 6) {x : Int32} (hd : 160 ≤ d) (hv : ∀ w, w < 2 ^ m → ¬ rp_ac (I 66) n = 0 → rx_gb I n m (nI (2 ^ m - 1)) (I 65 3) w = true → ∀ l, l < m → ¬ rx_mv I n m w l = Int64.minValue ∧ ¬ rx_z I n m w l = Int64.minValue) (kB : sp_part x = 0 → Q (-4611686018427387904 + (-2 : Int32).toInt64) Ω I J) (kS : ∀ I' J', ¬ sp_part x = 0 → rp_ac (I 66) n = 0 → mr_I I I' → mr_J J J' → Q (-4611686018427387904 + (-3 : Int32).toInt64) Ω I' J') (kN : ∀ I' J', ¬ sp_part x = 0 → ¬ rp_ac (I 66) n = 0 → mr_I I I' → mr_J J J' → rx_res I n m (2 ^ m - 1) = -1 → Q (-4611686018427387904 + (-1 : Int32).toInt64) Ω I' J') (kZ : ∀ w a0 b0 I' J', ¬ sp_part x = 0 → ¬ rp_ac (I 66) n = 0 → w < 2 ^ m → rr_F I I' → rr_J J J' → rx_gb I n m (nI (2 ^ m - 1)) (I 65 3) w = true → rx_res I n m (2 ^ m - 1) = nI w → (rr_X I n m w (I 65 3) a0 b0 m).1 = 0 → Q (-4611686018427387904 + (-1 : Int32).toInt64) Ω I' J') (hQ : ∀ w a0 b0 I' J', ¬ sp_part x = 0 → ¬ rp_ac (I 66) n = 0 → w < 2 ^ m → rr_F I I' → rr_J J J' → rx_gb I n m (nI (2 ^ m - 1)) (I 65 3) w = true → rx_res I n m (2 ^ m - 1) = nI w → ¬ (rr_X I n m w (I 65 3) a0 b0 m).1 = 0 → Q (lw_v (rr_X I n m w (I 65 3) a0 b0 m).2.1 (rr_X I n m w (I 65 3) a0 b0 m).2.2 x) Ω I' J') : aw_Call G MX8_reach d 0 0 [.ref (aw_ad G 65), .int x] Ω I J (aw_QL Q) := by
  refine aw_enter (by decide +kernel) rfl (Nat.le_of_ble_eq_true rfl) ?_
  show AW G MX8_reach (aw_nx Ω) d 0 0 (aw_QL Q) Ω I J 0 0 [.ref (aw_ad G 65), .int x, .null, .null, .null, .null, .null] 0 []
  refine aw_iload_n dX8_reach_0 rfl ?_
  refine aw_csI (As := [_]) (d' := d - 1) dX8_reach_1 lkX8_193 (by omega) rfl rfl (Nat.le_of_ble_eq_true rfl) ⟨Nat.le_refl _, Nat.le_refl _⟩ (tX8_isPart ?_)
  refine aw_if_ne (t := 13) dX8_reach_4 (by decide) (fun h1 => ?_) (fun h1 => ?_)
  · skip
    refine aw_aload_n dX8_reach_13 rfl ?_
    refine aw_cvI (As := []) (d' := d - 1) dX8_reach_14 lkX8_146 hM.o (by omega) rfl rfl (Nat.le_of_ble_eq_true rfl) ⟨Nat.le_refl _, Nat.le_refl _⟩ (tX8_proper hM hn hn3 (by omega) ?_)
    · skip
      intro I0 J0 fI0 fJ0
      have hn0 : I0 65 0 = nI n := by rw [fI0 65 0 (by decide) (by decide)]; exact hn
      have hm0 : I0 65 4 = nI m := by rw [fI0 65 4 (by decide) (by decide)]; exact hm
      have ht0 : I0 65 3 = I 65 3 := fI0 65 3 (by decide) (by decide)
      refine aw_if_ne (t := 26) dX8_reach_17 (by decide) (fun h2 => ?_) (fun h2 => ?_)
      · skip
        refine aw_aload_n dX8_reach_26 rfl ?_
        refine aw_aload_n dX8_reach_27 rfl ?_
        refine aw_cvI (As := []) (d' := d - 1) dX8_reach_28 lkX8_220 hM.o (by omega) rfl rfl (Nat.le_of_ble_eq_true rfl) ⟨Nat.le_refl _, Nat.le_refl _⟩ (tX8_all hM hm0 ?_)
        refine aw_toI (sp_all_nI m (by omega)) ?_
        refine aw_cvI (As := [_]) (d' := d - 1) dX8_reach_31 lkX8_190 hM.o (by omega) rfl rfl (Nat.le_of_ble_eq_true rfl) ⟨Nat.le_refl _, Nat.le_refl _⟩ (tX8_works hM hn0 hn3 hm0 hm6 (Nat.sub_lt (Nat.pos_of_ne_zero (by simp)) (by decide)) (by omega) ?_ ?_)
        · skip
          intro I1 J1 a1 b1 f1
          rw [show cx_find (rx_gb I0 n m (nI ((2 ^ m - 1))) (I0 65 3)) (nI ((2 ^ m - 1))) ((2 ^ m - 1) + 1) 0 = rx_res I n m ((2 ^ m - 1)) from rx_res_c fI0.E ht0] at f1
          have fI1 := fI0.tr a1
          have fJ1 := fJ0.tr b1
          refine aw_istore_n dX8_reach_34 (by decide) ?_
          refine aw_lv (lv2 := [.ref _, .int _, .int _, .null, .null, .null, .null]) rfl ?_
          refine aw_iload_n dX8_reach_35 rfl ?_
          refine aw_iconst (v := -1) dX8_reach_36 (by decide) ?_
          refine aw_icmp_ne (t := 45) dX8_reach_37 (by decide) (fun h3 => absurd h3 (by decide)) (fun h3 => ?_)
          refine aw_iconst (v := -1) dX8_reach_40 (by decide) ?_
          refine aw_pc (pc2 := 41) rfl ?_
          refine aw_csL (As := [_]) (d' := d - 1) dX8_reach_41 lkX8_200 (by omega) rfl rfl (Nat.le_of_ble_eq_true rfl) ⟨Nat.le_refl _, Nat.le_refl _⟩ (tX8_refused ?_)
          exact aw_lret dX8_reach_44 rfl (kN I1 J1 h1 h2 fI1 fJ1 f1) (Nat.zero_le _) (Nat.zero_le _)
        · skip
          intro w I1 J1 hw a1 b1 g1 A1 f1
          rw [show cx_find (rx_gb I0 n m (nI ((2 ^ m - 1))) (I0 65 3)) (nI ((2 ^ m - 1))) ((2 ^ m - 1) + 1) 0 = rx_res I n m ((2 ^ m - 1)) from rx_res_c fI0.E ht0] at f1
          rw [rx_find_c (S := (2 ^ m - 1)) fI0.E, ht0] at g1
          rw [rx_At_c fI0.E, ht0] at A1
          have fI1 := fI0.tr a1
          have fJ1 := fJ0.tr b1
          have h64 : 2 ^ m ≤ 2 ^ 6 := Nat.pow_le_pow_right (by decide) hm6
          have hne : ¬ nI w = -1 := fun q => absurd (show (0 : Int32) ≤ -1 from q ▸ nI_pos' (by omega)) (by decide)
          refine aw_istore_n dX8_reach_34 (by decide) ?_
          refine aw_lv (lv2 := [.ref _, .int _, .int _, .null, .null, .null, .null]) rfl ?_
          refine aw_iload_n dX8_reach_35 rfl ?_
          refine aw_iconst (v := -1) dX8_reach_36 (by decide) ?_
          refine aw_icmp_ne (t := 45) dX8_reach_37 (by decide) (fun h4 => ?_) (fun h4 => ?_)
          · skip
            have hn1 : I1 65 0 = nI n := by rw [fI1 65 0 (by decide) (by decide)]; exact hn
            have hm1 : I1 65 4 = nI m := by rw [fI1 65 4 (by decide) (by decide)]; exact hm
            have ht1 : I1 65 3 = I 65 3 := fI1 65 3 (by decide) (by decide)
            have hE1 := fI1.E
            have bne := rx_bne g1
            have hw2 : w < 2 ^ m := Nat.lt_of_le_of_lt hw (Nat.sub_lt (Nat.pos_of_ne_zero (by simp)) (by decide))
            have hkn : cx_n w m ≤ n := by simp only [rx_gb, Bool.and_eq_true, decide_eq_true_eq] at g1; exact g1.1
            refine aw_aload_n dX8_reach_45 rfl ?_
            refine aw_iload_n dX8_reach_46 rfl ?_
            refine aw_cvV (As := [_]) (d' := d - 1) dX8_reach_47 lkX8_233 hM.o (by omega) rfl rfl (Nat.le_of_ble_eq_true rfl) ⟨Nat.le_refl _, Nat.le_refl _⟩ (tX8_findsRise hM hn1 hn3 hm1 hm6 hw2 (by omega) hkn ?_)
            · skip
              intro I2 J2 a2 b2 u2 z2
              have hF2 : rr_F I I2 := fun a k h1 h2 => (a2 a k (by omega) h2).trans (fI1 a k (by omega) h2)
              have hJ2 : rr_J J J2 := fun a k h1 h2 => by rw [b2 a (by omega) (by omega) (by omega) (by omega) (by omega)]; exact fJ1 a k h1 (by omega)
              simp only [rx_u_c fI1.E] at u2
              simp only [rx_z_c fI1.E] at z2
              refine aw_aload_n dX8_reach_50 rfl ?_
              refine aw_iconst (v := nI 0) dX8_reach_51 (by decide) ?_
              refine aw_putZ dX8_reach_52 fwX8_223 hM.o (by decide) rfl ?_
              refine aw_iconst (v := nI 0) dX8_reach_55 (by decide) ?_
              refine aw_istore_n dX8_reach_56 (by decide) ?_
              refine aw_lv (lv2 := [.ref _, .int _, .int _, .int _, .null, .null, .null]) rfl ?_
              exact lX8_reach1 (I0 := I) (J0 := J) (t := I 65 3) (a0 := J2 65 26) (b0 := J2 65 27) hM hn hn3 hm hm6 rfl (hv w hw2 h2 g1) (by omega) (fun I' J' b3 b4 b5 => kZ w _ _ I' J' h1 h2 hw2 b3 b4 g1 f1 b5) (fun I' J' b3 b4 b5 => hQ w _ _ I' J' h1 h2 hw2 b3 b4 g1 f1 b5) (m + 1) 0 (aw_up I2 65 25 (nI 0)) J2 (by omega) (by omega) ⟨fun a k h1 h2 => by rw [aw_up_ne I2 _ (by omega)]; exact hF2 a k h1 h2, hJ2, ⟨by rw [b2 65 (by decide) (by decide) (by decide) (by decide) (by decide)]; exact A1.1, fun i hi => by rw [b2 73 (by decide) (by decide) (by decide) (by decide) (by decide)]; exact A1.2.1 i hi, fun l hl => by rw [b2 74 (by decide) (by decide) (by decide) (by decide) (by decide)]; exact A1.2.2 l hl⟩, u2, z2, aw_up_self _ _ _ _, rfl, rfl⟩ (fun q => absurd rfl q)
          · skip
            exact absurd h4 hne
      · skip
        refine aw_bipush (v := -3) dX8_reach_20 (by decide) ?_
        refine aw_csL (As := [_]) (d' := d - 1) dX8_reach_22 lkX8_200 (by omega) rfl rfl (Nat.le_of_ble_eq_true rfl) ⟨Nat.le_refl _, Nat.le_refl _⟩ (tX8_refused ?_)
        exact aw_lret dX8_reach_25 rfl (kS I0 J0 h1 h2 fI0 fJ0) (Nat.zero_le _) (Nat.zero_le _)
  · skip
    refine aw_bipush (v := -2) dX8_reach_7 (by decide) ?_
    refine aw_csL (As := [_]) (d' := d - 1) dX8_reach_9 lkX8_200 (by omega) rfl rfl (Nat.le_of_ble_eq_true rfl) ⟨Nat.le_refl _, Nat.le_refl _⟩ (tX8_refused ?_)
    exact aw_lret dX8_reach_12 rfl (kB h1) (Nat.zero_le _) (Nat.zero_le _)

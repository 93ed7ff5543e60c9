/-! THE REFERENCE: steps, walk, pieces, reach -/
theorem rx_sl_c {I I' : aw_MI} {n m w : Nat} {t : Int32} (h : rx_E I I') : rx_sl I' n m w t = rx_sl I n m w t := by
  funext l
  unfold rx_sl
  rw [rp_bd_c h.2.2, rx_b_c h, rx_v_c h]
  exact sp_left_c (fun i _ => rp_row_c h.2.2) (fun _ _ => rfl)
theorem rw_lf_c {I I' : aw_MI} {n m : Nat} (h : rx_E I I') (ht : I' 65 3 = I 65 3) : rw_lf I' n m = rw_lf I n m := by
  funext w
  unfold rw_lf
  rw [ht, show rx_hb I' n m (I 65 3) w = rx_hb I n m (I 65 3) w from funext fun l => by unfold rx_hb; rw [rx_sl_c h, h.2.2]]
theorem rw_nx_c {I I' : aw_MI} {n m : Nat} (h : rx_E I I') (ht : I' 65 3 = I 65 3) : rw_nx I' n m = rw_nx I n m := by
  funext w
  unfold rw_nx
  rw [rw_lf_c h ht, rx_res_c h ht]
abbrev rw_L (I : aw_MI) (n m : Nat) : List Int32 × Int32 := rw_go (rw_lf I n m) (rw_nx I n m) m 64 (nI 0)
theorem rw_go_len (lf : Nat → Nat) (nx : Nat → Int32) (m : Nat) : ∀ z st, (rw_go lf nx m z st).1.length ≤ z
  | 0, _ => Nat.le_refl _
  | z + 1, st => by
    unfold rw_go
    split
    · exact Nat.zero_le _
    · split
      · simp
      · have := rw_go_len lf nx m z (nx st.toNatClampNeg)
        simp only [List.length_cons]
        omega
theorem rw_go_01 (lf : Nat → Nat) (nx : Nat → Int32) (m : Nat) : ∀ z st, (rw_go lf nx m z st).2 = nI 0 ∨ (rw_go lf nx m z st).2 = nI 1
  | 0, _ => Or.inl rfl
  | z + 1, st => by
    unfold rw_go
    split
    · exact Or.inl rfl
    · split
      · exact Or.inr rfl
      · exact rw_go_01 lf nx m z _

theorem tX8_steps {G : aw_G} {d : Nat} {Ω : aw_O} {I : aw_MI} {J : aw_MJ} {Q : Int32 → aw_O → aw_MI → aw_MJ → Prop} {n m : Nat} (hM : aw_model Ω 65) (hn : I 65 0 = nI n) (hn3 : n ≤ 3) (hm : I 65 4 = nI m) (hm6 : m ≤ 6) (hd : 7 ≤ d) (hT : ¬ rp_ac (I 66) n = 0 → rw_T (rw_lf I n m) (rw_nx I n m) m 64 (nI 0) ∧ rx_ok I n m 0) (kS : ∀ I' J', rp_ac (I 66) n = 0 → mr_I I I' → mr_J J J' → Q (-3) Ω I' J') (kN : ∀ I' J', ¬ rp_ac (I 66) n = 0 → wr_I I I' → mr_J J J' → (rw_L I n m).2 = 0 → Q (-1) Ω I' J') (hQ : ∀ I' J', ¬ rp_ac (I 66) n = 0 → wr_I I I' → mr_J J J' → ¬ (rw_L I n m).2 = 0 → Q (nI (rw_L I n m).1.length - nI 1) Ω I' J') : aw_Call G MX8_steps d 0 0 [.ref (aw_ad G 65)] Ω I J (aw_QI Q) := by
  refine aw_enter (by decide +kernel) rfl (Nat.le_of_ble_eq_true rfl) ?_
  show AW G MX8_steps (aw_nx Ω) d 0 0 (aw_QI Q) Ω I J 0 0 [.ref (aw_ad G 65)] 0 []
  refine aw_aload_n dX8_steps_0 rfl ?_
  refine aw_cvI (As := []) (d' := d - 1) dX8_steps_1 lkX8_146 hM.o (by omega) rfl rfl (Nat.le_of_ble_eq_true rfl) ⟨Nat.le_refl _, Nat.le_refl _⟩ (tX8_proper hM hn hn3 (by omega) ?_)
  · skip
    intro I0 J0 fI0 fJ0
    have hn0 : I0 65 0 = nI n := by rw [fI0 65 0 (by decide) (by decide)]; exact hn
    have hm0 : I0 65 4 = nI m := by rw [fI0 65 4 (by decide) (by decide)]; exact hm
    have ht0 : I0 65 3 = I 65 3 := fI0 65 3 (by decide) (by decide)
    refine aw_if_ne (t := 12) dX8_steps_4 (by decide) (fun h1 => ?_) (fun h1 => ?_)
    · skip
      refine aw_aload_n dX8_steps_12 rfl ?_
      refine aw_cvI (As := []) (d' := d - 1) dX8_steps_13 lkX8_217 hM.o (by omega) rfl rfl (Nat.le_of_ble_eq_true rfl) ⟨Nat.le_refl _, Nat.le_refl _⟩ (tX8_walks (I := I0) hM hn0 hn3 hm0 hm6 (by omega) (by rw [rw_lf_c fI0.E ht0, rw_nx_c fI0.E ht0]; exact (hT h1).1) (by rw [rx_ok_c fI0.E]; exact (hT h1).2) ?_)
      · skip
        intro I1 J1 fI1 fJ1 w1 w2
        rw [rw_lf_c fI0.E ht0, rw_nx_c fI0.E ht0] at w1 w2 ⊢
        have hF : wr_I I I1 := (mr_wr fI0).tr fI1
        have hJ : mr_J J J1 := fJ0.tr fJ1
        refine aw_if_eq (t := 28) dX8_steps_16 (by decide) (fun h2 => ?_) (fun h2 => ?_)
        · skip
          refine aw_iconst (v := -1) dX8_steps_28 (by decide) ?_
          exact aw_iret dX8_steps_29 rfl (kN I1 J1 h1 hF hJ h2) (Nat.zero_le _) (Nat.zero_le _)
        · skip
          refine aw_aload_n dX8_steps_19 rfl ?_
          refine aw_getIv (v := nI ((rw_L I n m).1.length)) dX8_steps_20 flX8_214 hM.o w1 ?_
          refine aw_iconst (v := nI 1) dX8_steps_23 (by decide) ?_
          refine aw_isub dX8_steps_24 ?_
          refine aw_goto (t := 29) dX8_steps_25 (by decide) ?_
          exact aw_iret dX8_steps_29 rfl (hQ I1 J1 h1 hF hJ h2) (Nat.zero_le _) (Nat.zero_le _)
    · skip
      refine aw_bipush (v := -3) dX8_steps_7 (by decide) ?_
      refine aw_goto (t := 29) dX8_steps_9 (by decide) ?_
      exact aw_iret dX8_steps_29 rfl (kS I0 J0 h1 fI0 fJ0) (Nat.zero_le _) (Nat.zero_le _)
theorem tX8_walk {G : aw_G} {d : Nat} {Ω : aw_O} {I : aw_MI} {J : aw_MJ} {Q : Int32 → aw_O → aw_MI → aw_MJ → Prop} {n m : Nat} (hM : aw_model Ω 65) (hn : I 65 0 = nI n) (hn3 : n ≤ 3) (hm : I 65 4 = nI m) (hm6 : m ≤ 6) {x : Int32} (hd : 7 ≤ d) (hT : ¬ rp_ac (I 66) n = 0 → rw_T (rw_lf I n m) (rw_nx I n m) m 64 (nI 0) ∧ rx_ok I n m 0) (kS : ∀ I' J', rp_ac (I 66) n = 0 → mr_I I I' → mr_J J J' → Q (-3) Ω I' J') (kP : ∀ I' J', ¬ rp_ac (I 66) n = 0 → wr_I I I' → mr_J J J' → sp_var x (rw_L I n m).1.length = 0 → Q (-12) Ω I' J') (hQ : ∀ k I' J', x = nI k → k < (rw_L I n m).1.length → ¬ rp_ac (I 66) n = 0 → wr_I I I' → mr_J J J' → Q ((rw_L I n m).1.getD k 0) Ω I' J') : aw_Call G MX8_walk d 0 0 [.ref (aw_ad G 65), .int x] Ω I J (aw_QI Q) := by
  refine aw_enter (by decide +kernel) rfl (Nat.le_of_ble_eq_true rfl) ?_
  show AW G MX8_walk (aw_nx Ω) d 0 0 (aw_QI Q) Ω I J 0 0 [.ref (aw_ad G 65), .int x] 0 []
  refine aw_aload_n dX8_walk_0 rfl ?_
  refine aw_cvI (As := []) (d' := d - 1) dX8_walk_1 lkX8_146 hM.o (by omega) rfl rfl (Nat.le_of_ble_eq_true rfl) ⟨Nat.le_refl _, Nat.le_refl _⟩ (tX8_proper hM hn hn3 (by omega) ?_)
  · skip
    intro I0 J0 fI0 fJ0
    have hn0 : I0 65 0 = nI n := by rw [fI0 65 0 (by decide) (by decide)]; exact hn
    have hm0 : I0 65 4 = nI m := by rw [fI0 65 4 (by decide) (by decide)]; exact hm
    have ht0 : I0 65 3 = I 65 3 := fI0 65 3 (by decide) (by decide)
    refine aw_if_ne (t := 10) dX8_walk_4 (by decide) (fun h1 => ?_) (fun h1 => ?_)
    · skip
      refine aw_aload_n dX8_walk_10 rfl ?_
      refine aw_cvI (As := []) (d' := d - 1) dX8_walk_11 lkX8_217 hM.o (by omega) rfl rfl (Nat.le_of_ble_eq_true rfl) ⟨Nat.le_refl _, Nat.le_refl _⟩ (tX8_walks (I := I0) hM hn0 hn3 hm0 hm6 (by omega) (by rw [rw_lf_c fI0.E ht0, rw_nx_c fI0.E ht0]; exact (hT h1).1) (by rw [rx_ok_c fI0.E]; exact (hT h1).2) ?_)
      · skip
        intro I1 J1 fI1 fJ1 w1 w2
        rw [rw_lf_c fI0.E ht0, rw_nx_c fI0.E ht0] at w1 w2 ⊢
        have hF : wr_I I I1 := (mr_wr fI0).tr fI1
        have hJ : mr_J J J1 := fJ0.tr fJ1
        refine aw_pop dX8_walk_14 rfl ?_
        refine aw_iload_n dX8_walk_15 rfl ?_
        refine aw_i2l dX8_walk_16 ?_
        refine aw_lconst (v := 0) dX8_walk_17 (by decide) ?_
        refine aw_aload_n dX8_walk_18 rfl ?_
        refine aw_pc (pc2 := 19) rfl ?_
        refine aw_getIv (v := nI ((rw_L I n m).1.length)) dX8_walk_19 flX8_214 hM.o w1 ?_
        refine aw_iconst (v := nI 1) dX8_walk_22 (by decide) ?_
        refine aw_isub dX8_walk_23 ?_
        refine aw_i2l dX8_walk_24 ?_
        refine aw_csI (As := [_, _, _]) (d' := d - 1) dX8_walk_25 lkX8_84 (by omega) rfl rfl (Nat.le_of_ble_eq_true rfl) ⟨Nat.le_refl _, Nat.le_refl _⟩ (tX8_in ?_)
        have hlen : (rw_L I n m).1.length ≤ 64 := rw_go_len (rw_lf I n m) (rw_nx I n m) m 64 (nI 0)
        refine aw_toI (rg_var x (n := (rw_L I n m).1.length) (by omega)) ?_
        refine aw_if_eq (t := 40) dX8_walk_28 (by decide) (fun h2 => ?_) (fun h2 => ?_)
        · skip
          refine aw_bipush (v := -12) dX8_walk_40 (by decide) ?_
          exact aw_iret dX8_walk_42 rfl (kP I1 J1 h1 hF hJ h2) (Nat.zero_le _) (Nat.zero_le _)
        · skip
          obtain ⟨k, hk, rfl⟩ := sp_var1 h2
          refine aw_aload_n dX8_walk_31 rfl ?_
          refine aw_getR dX8_walk_32 flX8_54 hM.o hM.p23 ?_
          refine aw_iload_n dX8_walk_35 rfl ?_
          refine aw_ialdv (v := (rw_L I n m).1.getD k 0) dX8_walk_36 hM.s23 rfl (by omega) (w2 k hk) ?_
          refine aw_goto (t := 42) dX8_walk_37 (by decide) ?_
          exact aw_iret dX8_walk_42 rfl (hQ k I1 J1 rfl hk h1 hF hJ) (Nat.zero_le _) (Nat.zero_le _)
    · skip
      refine aw_bipush (v := -3) dX8_walk_7 (by decide) ?_
      exact aw_iret dX8_walk_9 rfl (kS I0 J0 h1 fI0 fJ0) (Nat.zero_le _) (Nat.zero_le _)
theorem tX8_worksV {G : aw_G} {d : Nat} {Ω : aw_O} {I : aw_MI} {J : aw_MJ} {Q : Int32 → aw_O → aw_MI → aw_MJ → Prop} {n m S : Nat} (hM : aw_model Ω 65) (hn : I 65 0 = nI n) (hn3 : n ≤ 3) (hm : I 65 4 = nI m) (hm6 : m ≤ 6) (hS : S < 2 ^ m) (hd : 5 ≤ d) (hQ : ∀ I' J', mr_I I I' → mr_J J J' → Q (rx_res I n m S) Ω I' J') : aw_Call G MX8_works d 0 0 [.ref (aw_ad G 65), .int (nI S)] Ω I J (aw_QI Q) :=
  tX8_works hM hn hn3 hm hm6 hS hd (fun I' J' a b f => f ▸ hQ I' J' a b) (fun w I' J' _ a b _ _ f => f ▸ hQ I' J' a b)
def rx_rt (I : aw_MI) (n m t : Nat) : Int32 := cx_find (rx_gb I n m (nI (2 ^ m - 1)) (nI t)) (nI (2 ^ m - 1)) (2 ^ m - 1 + 1) 0
def pc_I (I I' : aw_MI) : Prop := ∀ a k, ¬ (a = 65 ∧ (k = 13 ∨ k = 3)) → ¬ a = 77 → I' a k = I a k
theorem pc_I.E {I I' : aw_MI} (h : pc_I I I') : rx_E I I' := ⟨funext fun k => h 66 k (by omega) (by omega), funext fun k => h 67 k (by omega) (by omega), funext fun k => h 68 k (by omega) (by omega)⟩
theorem pc_s {I I' : aw_MI} {v : Int32} (h : pc_I I I') : pc_I I (aw_up I' 65 3 v) := fun a k h1 h2 => by
  rw [aw_up_ne I' _ (by omega)]
  exact h a k h1 h2
theorem pc_m {I I' I2 : aw_MI} (h : pc_I I I') (g : mr_I I' I2) : pc_I I I2 := fun a k h1 h2 => (g a k (by omega) h2).trans (h a k h1 h2)
theorem pc_b {I I' : aw_MI} (h : pc_I I I') : mr_I I (aw_up I' 65 3 (I 65 3)) := fun a k h1 h2 => by
  by_cases e : a = 65 ∧ k = 3
  · rw [e.1, e.2, aw_up_self]
  · rw [aw_up_ne I' _ (by omega)]
    exact h a k (by omega) h2
theorem rx_rt_at {I I' : aw_MI} {n m t : Nat} (h : rx_E I I') (ht : I' 65 3 = nI t) : rx_res I' n m (2 ^ m - 1) = rx_rt I n m t := by
  unfold rx_res rx_rt
  rw [ht, show rx_gb I' n m (nI (2 ^ m - 1)) (nI t) = rx_gb I n m (nI (2 ^ m - 1)) (nI t) from funext fun w => rx_find_c (S := 0) h]
theorem lX8_pieces {G : aw_G} {d : Nat} {Ω : aw_O}  {Q : Int32 → aw_O → aw_MI → aw_MJ → Prop} {n m T : Nat} {I0 : aw_MI} {J0 : aw_MJ} (hM : aw_model Ω 65) (hn : I0 65 0 = nI n) (hn3 : n ≤ 3) (hm : I0 65 4 = nI m) (hm6 : m ≤ 6) (hT : T ≤ 40) (hd : 6 ≤ d) (hQ : ∀ I' J', mr_I I0 I' → mr_J J0 J' → Q (sp_ch (rx_rt I0 n m) T) Ω I' J') : ∀ (z t : Nat) (I : aw_MI) (J : aw_MJ), t ≤ T → T - t < z → pc_I I0 I → mr_J J0 J → AW G MX8_pieces (aw_nx Ω) d 0 0 (aw_QI Q) Ω I J 0 0 [.ref (aw_ad G 65), .int (nI T), .int (I0 65 3), .int (rx_rt I0 n m t), .int (sp_ch (rx_rt I0 n m) t), .int (nI (t + 1)), .null] 50 [] := by
  intro z
  induction z with
  | zero =>
    intro t I J h0 hz fI fJ
    exact absurd hz (by omega)
  | succ z ih =>
    intro t I J h0 hz fI fJ
    refine aw_iload dX8_pieces_50 rfl ?_
    refine aw_iload_n dX8_pieces_52 rfl ?_
    refine aw_gtN (t := 97) dX8_pieces_53 (by decide) (by omega) (by omega) (fun h1 => ?_) (fun h1 => ?_)
    · skip
      refine aw_aload_n dX8_pieces_97 rfl ?_
      refine aw_iload_n dX8_pieces_98 rfl ?_
      refine aw_putI dX8_pieces_99 fwX8_93 hM.o rfl ?_
      refine aw_iload dX8_pieces_102 rfl ?_
      have q9 := hQ _ J (pc_b fI) fJ
      exact aw_iret dX8_pieces_104 rfl ((by rw [show T = t from by omega] at q9; exact q9)) (Nat.zero_le _) (Nat.zero_le _)
    · skip
      refine aw_aload_n dX8_pieces_56 rfl ?_
      refine aw_iload dX8_pieces_57 rfl ?_
      refine aw_putI dX8_pieces_59 fwX8_93 hM.o rfl ?_
      have hn2 : (aw_up I 65 3 (nI (t + 1))) 65 0 = nI n := by rw [aw_up_ne I _ (by decide), fI 65 0 (by decide) (by decide)]; exact hn
      have hm2 : (aw_up I 65 3 (nI (t + 1))) 65 4 = nI m := by rw [aw_up_ne I _ (by decide), fI 65 4 (by decide) (by decide)]; exact hm
      refine aw_aload_n dX8_pieces_62 rfl ?_
      refine aw_aload_n dX8_pieces_63 rfl ?_
      refine aw_pc (pc2 := 64) rfl ?_
      refine aw_cvI (As := []) (d' := d - 1) dX8_pieces_64 lkX8_220 hM.o (by omega) rfl rfl (Nat.le_of_ble_eq_true rfl) ⟨Nat.le_refl _, Nat.le_refl _⟩ (tX8_all hM hm2 ?_)
      refine aw_toI (sp_all_nI m (by omega)) ?_
      refine aw_cvI (As := [_]) (d' := d - 1) dX8_pieces_67 lkX8_190 hM.o (by omega) rfl rfl (Nat.le_of_ble_eq_true rfl) ⟨Nat.le_refl _, Nat.le_refl _⟩ (tX8_worksV hM hn2 hn3 hm2 hm6 (Nat.sub_lt (Nat.pos_of_ne_zero (by simp)) (by decide)) (by omega) ?_)
      · skip
        intro I1 J1 a1 b1
        refine aw_toI (rx_rt_at (t := t + 1) (pc_s fI).E (aw_up_self _ _ _ _)) ?_
        have fI1 := pc_m (pc_s (v := nI (t + 1)) fI) a1
        have fJ1 := fJ.tr b1
        refine aw_istore dX8_pieces_70 (by decide) ?_
        refine aw_lv (lv2 := [.ref _, .int _, .int _, .int _, .int _, .int _, .int _]) rfl ?_
        refine aw_iload dX8_pieces_72 rfl ?_
        refine aw_iload dX8_pieces_74 rfl ?_
        refine aw_iload_n dX8_pieces_76 rfl ?_
        refine aw_icmp_ne (t := 84) dX8_pieces_77 (by decide) (fun h2 => ?_) (fun h2 => ?_)
        · skip
          refine aw_iconst (v := nI 1) dX8_pieces_84 (by decide) ?_
          refine aw_iadd dX8_pieces_85 ?_
          refine aw_istore dX8_pieces_86 (by decide) ?_
          refine aw_lv (lv2 := [.ref _, .int _, .int _, .int _, .int _, .int _, .int _]) rfl ?_
          refine aw_iload dX8_pieces_88 rfl ?_
          refine aw_istore_n dX8_pieces_90 (by decide) ?_
          refine aw_lv (lv2 := [.ref _, .int _, .int _, .int _, .int _, .int _, .int _]) rfl ?_
          refine aw_pc (pc2 := 91) rfl ?_
          refine aw_iincN dX8_pieces_91 rfl (by decide) ?_
          refine aw_lv (lv2 := [.ref _, .int _, .int _, .int _, .int _, .int _, .int _]) rfl ?_
          refine aw_goto (t := 50) dX8_pieces_94 (by decide) ?_
          refine aw_frg 6 ?_
          have q9 := ih (t + 1) I1 J1 (by omega) (by omega) fI1 fJ1
          rw [sp_ch, if_neg h2] at q9
          exact q9
        · skip
          refine aw_iconst (v := nI 0) dX8_pieces_80 (by decide) ?_
          refine aw_goto (t := 85) dX8_pieces_81 (by decide) ?_
          refine aw_iadd dX8_pieces_85 ?_
          refine aw_istore dX8_pieces_86 (by decide) ?_
          refine aw_lv (lv2 := [.ref _, .int _, .int _, .int _, .int _, .int _, .int _]) rfl ?_
          refine aw_iload dX8_pieces_88 rfl ?_
          refine aw_istore_n dX8_pieces_90 (by decide) ?_
          refine aw_lv (lv2 := [.ref _, .int _, .int _, .int _, .int _, .int _, .int _]) rfl ?_
          refine aw_iincN dX8_pieces_91 rfl (by decide) ?_
          refine aw_lv (lv2 := [.ref _, .int _, .int _, .int _, .int _, .int _, .int _]) rfl ?_
          refine aw_pc (pc2 := 94) rfl ?_
          refine aw_goto (t := 50) dX8_pieces_94 (by decide) ?_
          refine aw_frg 6 ?_
          have q9 := ih (t + 1) I1 J1 (by omega) (by omega) fI1 fJ1
          rw [sp_ch, if_pos h2] at q9
          exact q9
theorem rg_140 (x : Int32) : sp_rng x.toInt64 1 40 = sp_lh x 1 40 := rg_w x (nI 1) (nI 40)
theorem tX8_pieces {G : aw_G} {d : Nat} {Ω : aw_O} {I : aw_MI} {J : aw_MJ} {Q : Int32 → aw_O → aw_MI → aw_MJ → Prop} {n m : Nat} (hM : aw_model Ω 65) (hn : I 65 0 = nI n) (hn3 : n ≤ 3) (hm : I 65 4 = nI m) (hm6 : m ≤ 6) {x : Int32} (hd : 7 ≤ d) (kB : sp_lh x 1 40 = 0 → Q (-2) Ω I J) (kS : ∀ I' J', ¬ sp_lh x 1 40 = 0 → rp_ac (I 66) n = 0 → mr_I I I' → mr_J J J' → Q (-3) Ω I' J') (hQ : ∀ T I' J', x = nI T → 1 ≤ T → T ≤ 40 → ¬ rp_ac (I 66) n = 0 → mr_I I I' → mr_J J J' → Q (sp_ch (rx_rt I n m) T) Ω I' J') : aw_Call G MX8_pieces d 0 0 [.ref (aw_ad G 65), .int x] Ω I J (aw_QI Q) := by
  refine aw_enter (by decide +kernel) rfl (Nat.le_of_ble_eq_true rfl) ?_
  show AW G MX8_pieces (aw_nx Ω) d 0 0 (aw_QI Q) Ω I J 0 0 [.ref (aw_ad G 65), .int x, .null, .null, .null, .null, .null] 0 []
  refine aw_iload_n dX8_pieces_0 rfl ?_
  refine aw_i2l dX8_pieces_1 ?_
  refine aw_lconst (v := 1) dX8_pieces_2 (by decide) ?_
  refine aw_ldc2 (v := 40) dX8_pieces_3 (aw_pl 914 (by decide +kernel) rfl) ?_
  refine aw_csI (As := [_, _, _]) (d' := d - 1) dX8_pieces_6 lkX8_84 (by omega) rfl rfl (Nat.le_of_ble_eq_true rfl) ⟨Nat.le_refl _, Nat.le_refl _⟩ (tX8_in ?_)
  refine aw_toI (rg_140 x) ?_
  refine aw_pc (pc2 := 9) rfl ?_
  refine aw_if_ne (t := 15) dX8_pieces_9 (by decide) (fun h1 => ?_) (fun h1 => ?_)
  · skip
    refine aw_aload_n dX8_pieces_15 rfl ?_
    refine aw_cvI (As := []) (d' := d - 1) dX8_pieces_16 lkX8_146 hM.o (by omega) rfl rfl (Nat.le_of_ble_eq_true rfl) ⟨Nat.le_refl _, Nat.le_refl _⟩ (tX8_proper hM hn hn3 (by omega) ?_)
    · skip
      intro I0 J0 fI0 fJ0
      have hn0 : I0 65 0 = nI n := by rw [fI0 65 0 (by decide) (by decide)]; exact hn
      have hm0 : I0 65 4 = nI m := by rw [fI0 65 4 (by decide) (by decide)]; exact hm
      have ht0 : I0 65 3 = I 65 3 := fI0 65 3 (by decide) (by decide)
      refine aw_if_ne (t := 25) dX8_pieces_19 (by decide) (fun h2 => ?_) (fun h2 => ?_)
      · skip
        obtain ⟨T, rfl, t1, t40⟩ := sp_lh1 h1 (by decide) (by decide)
        refine aw_aload_n dX8_pieces_25 rfl ?_
        refine aw_getIv (v := (I 65 3)) dX8_pieces_26 flX8_93 hM.o ht0 ?_
        refine aw_istore_n dX8_pieces_29 (by decide) ?_
        refine aw_lv (lv2 := [.ref _, .int _, .int _, .null, .null, .null, .null]) rfl ?_
        refine aw_aload_n dX8_pieces_30 rfl ?_
        refine aw_iconst (v := nI 0) dX8_pieces_31 (by decide) ?_
        refine aw_pc (pc2 := 32) rfl ?_
        refine aw_putI dX8_pieces_32 fwX8_93 hM.o rfl ?_
        have p2 : pc_I I (aw_up I0 65 3 (nI 0)) := pc_s (fun a k h1 h2 => fI0 a k (by omega) h2)
        have hn2 : (aw_up I0 65 3 (nI 0)) 65 0 = nI n := by rw [p2 65 0 (by decide) (by decide)]; exact hn
        have hm2 : (aw_up I0 65 3 (nI 0)) 65 4 = nI m := by rw [p2 65 4 (by decide) (by decide)]; exact hm
        refine aw_aload_n dX8_pieces_35 rfl ?_
        refine aw_aload_n dX8_pieces_36 rfl ?_
        refine aw_cvI (As := []) (d' := d - 1) dX8_pieces_37 lkX8_220 hM.o (by omega) rfl rfl (Nat.le_of_ble_eq_true rfl) ⟨Nat.le_refl _, Nat.le_refl _⟩ (tX8_all hM hm2 ?_)
        refine aw_toI (sp_all_nI m (by omega)) ?_
        refine aw_cvI (As := [_]) (d' := d - 1) dX8_pieces_40 lkX8_190 hM.o (by omega) rfl rfl (Nat.le_of_ble_eq_true rfl) ⟨Nat.le_refl _, Nat.le_refl _⟩ (tX8_worksV hM hn2 hn3 hm2 hm6 (Nat.sub_lt (Nat.pos_of_ne_zero (by simp)) (by decide)) (by omega) ?_)
        · skip
          intro I1 J1 a1 b1
          refine aw_toI (y := rx_rt I n m 0) (rx_rt_at (t := 0) p2.E (aw_up_self _ _ _ _)) ?_
          have p3 : pc_I I I1 := pc_m p2 a1
          refine aw_istore_n dX8_pieces_43 (by decide) ?_
          refine aw_lv (lv2 := [.ref _, .int _, .int _, .int _, .null, .null, .null]) rfl ?_
          refine aw_iconst (v := nI 0) dX8_pieces_44 (by decide) ?_
          refine aw_istore dX8_pieces_45 (by decide) ?_
          refine aw_lv (lv2 := [.ref _, .int _, .int _, .int _, .int _, .null, .null]) rfl ?_
          refine aw_iconst (v := nI 1) dX8_pieces_47 (by decide) ?_
          refine aw_istore dX8_pieces_48 (by decide) ?_
          refine aw_lv (lv2 := [.ref _, .int _, .int _, .int _, .int _, .int _, .null]) rfl ?_
          exact lX8_pieces (I0 := I) (J0 := J) hM hn hn3 hm hm6 t40 (by omega) (fun I' J' a b => hQ T I' J' rfl t1 t40 h2 a b) (T + 1) 0 I1 J1 (by omega) (by omega) p3 (fJ0.tr b1)
      · skip
        refine aw_bipush (v := -3) dX8_pieces_22 (by decide) ?_
        exact aw_iret dX8_pieces_24 rfl (kS I0 J0 h1 h2 fI0 fJ0) (Nat.zero_le _) (Nat.zero_le _)
  · skip
    refine aw_bipush (v := -2) dX8_pieces_12 (by decide) ?_
    exact aw_iret dX8_pieces_14 rfl (kB h1) (Nat.zero_le _) (Nat.zero_le _)
/-! reach -/
abbrev rb_S : Type := Int32 × Int64 × Int64
def rb_lim (p : rb_S) (v u : Int64) : rb_S := if u < 0 then (if p.1 = 0 then (nI 1, v, -u) else if sp_lesR 140 v (-u) p.2.1 p.2.2 = 0 then p else (nI 1, v, -u)) else p
def rb_P (I I' : aw_MI) (J J' : aw_MJ) (p : rb_S) : Prop := (∀ a k, ¬ (a = 65 ∧ k = 25) → I' a k = I a k) ∧ (∀ a k, ¬ (a = 65 ∧ (k = 26 ∨ k = 27)) → J' a k = J a k) ∧ I' 65 25 = p.1 ∧ J' 65 26 = p.2.1 ∧ J' 65 27 = p.2.2
theorem rb_up {I : aw_MI} {J : aw_MJ} {v u : Int64} : rb_P I (aw_up I 65 25 (nI 1)) J (aw_up (aw_up J 65 26 v) 65 27 u) (nI 1, v, u) := ⟨fun a k h => aw_up_ne I _ (by omega), fun a k h => by rw [aw_up_ne _ _ (by omega), aw_up_ne J _ (by omega)], aw_up_self _ _ _ _, by rw [aw_up_ne _ _ (by decide), aw_up_self], aw_up_self _ _ _ _⟩
theorem tX8_bounds {G : aw_G} {d : Nat} {Ω : aw_O} {I : aw_MI} {J : aw_MJ} {Q : aw_O → aw_MI → aw_MJ → Prop} {v u : Int64} (hM : aw_model Ω 65) (hz : u < 0 → ¬ I 65 25 = 0 → sp_lesT 140 v (-u) (J 65 26) (J 65 27)) (hd : 142 ≤ d) (hQ : ∀ I' J' p, rb_lim (I 65 25, J 65 26, J 65 27) v u = p → rb_P I I' J J' p → Q Ω I' J') : aw_Call G MX8_bounds d 0 0 [.ref (aw_ad G 65), .long v, .long u] Ω I J (aw_QV Q) := by
  refine aw_enter (by decide +kernel) rfl (Nat.le_of_ble_eq_true rfl) ?_
  show AW G MX8_bounds (aw_nx Ω) d 0 0 (aw_QV Q) Ω I J 0 0 [.ref (aw_ad G 65), .long v, .null, .long u, .null] 0 []
  refine aw_lload_n dX8_bounds_0 rfl ?_
  refine aw_lconst (v := 0) dX8_bounds_1 (by decide) ?_
  refine aw_lcmp dX8_bounds_2 ?_
  refine aw_if_ge (t := 46) dX8_bounds_3 (by decide) (fun h1 => ?_) (fun h1 => ?_)
  · skip
    try simp only [lcmpE, lcmpL, lcmpG, lcmpLE, lcmpGT, nrm_le, nrm_le64, Classical.not_not] at h1
    exact aw_vret dX8_bounds_46 rfl (hQ I J _ (by unfold rb_lim; rw [if_neg h1]) ⟨fun _ _ _ => rfl, fun _ _ _ => rfl, rfl, rfl, rfl⟩) (Nat.zero_le _) (Nat.zero_le _)
  · skip
    refine aw_aload_n dX8_bounds_6 rfl ?_
    refine aw_getZ dX8_bounds_7 flX8_223 hM.o ?_
    refine aw_if_eq (t := 30) dX8_bounds_10 (by decide) (fun h2 => ?_) (fun h2 => ?_)
    · skip
      refine aw_aload_n dX8_bounds_30 rfl ?_
      refine aw_iconst (v := nI 1) dX8_bounds_31 (by decide) ?_
      refine aw_putZ dX8_bounds_32 fwX8_223 hM.o (by decide) rfl ?_
      refine aw_aload_n dX8_bounds_35 rfl ?_
      refine aw_lload_n dX8_bounds_36 rfl ?_
      refine aw_pc (pc2 := 37) rfl ?_
      refine aw_putJ dX8_bounds_37 fwX8_227 hM.o rfl ?_
      refine aw_aload_n dX8_bounds_40 rfl ?_
      refine aw_lload_n dX8_bounds_41 rfl ?_
      refine aw_lneg dX8_bounds_42 ?_
      refine aw_putJ dX8_bounds_43 fwX8_230 hM.o rfl ?_
      try simp only [lcmpE, lcmpL, lcmpG, lcmpLE, lcmpGT, nrm_le, nrm_le64, Classical.not_not] at h1
      try simp only [lcmpE, lcmpL, lcmpG, lcmpLE, lcmpGT, nrm_le, nrm_le64, Classical.not_not] at h2
      exact aw_vret dX8_bounds_46 rfl (hQ _ _ _ (by unfold rb_lim; rw [if_pos h1, if_pos h2]) (rb_up (I := I) (J := J) (v := v) (u := -u))) (Nat.zero_le _) (Nat.zero_le _)
    · skip
      refine aw_lload_n dX8_bounds_13 rfl ?_
      refine aw_lload_n dX8_bounds_14 rfl ?_
      refine aw_lneg dX8_bounds_15 ?_
      refine aw_aload_n dX8_bounds_16 rfl ?_
      refine aw_getJ dX8_bounds_17 flX8_227 hM.o ?_
      refine aw_pc (pc2 := 20) rfl ?_
      refine aw_aload_n dX8_bounds_20 rfl ?_
      refine aw_getJ dX8_bounds_21 flX8_230 hM.o ?_
      refine aw_csI (As := [_, _, _, _]) (d' := d - 1) dX8_bounds_24 lkX8_80 (by omega) rfl rfl (Nat.le_of_ble_eq_true rfl) ⟨Nat.le_refl _, Nat.le_refl _⟩ (tX8_isLess (z := 140) (by omega) (hz (lcmpL.mp (Int32.not_le.mp h1)) h2) ?_)
      refine aw_if_eq (t := 46) dX8_bounds_27 (by decide) (fun h3 => ?_) (fun h3 => ?_)
      · skip
        try simp only [lcmpE, lcmpL, lcmpG, lcmpLE, lcmpGT, nrm_le, nrm_le64, Classical.not_not] at h1
        try simp only [lcmpE, lcmpL, lcmpG, lcmpLE, lcmpGT, nrm_le, nrm_le64, Classical.not_not] at h2
        try simp only [lcmpE, lcmpL, lcmpG, lcmpLE, lcmpGT, nrm_le, nrm_le64, Classical.not_not] at h3
        exact aw_vret dX8_bounds_46 rfl (hQ I J _ (by unfold rb_lim; rw [if_pos h1, if_neg h2, if_pos h3]) ⟨fun _ _ _ => rfl, fun _ _ _ => rfl, rfl, rfl, rfl⟩) (Nat.zero_le _) (Nat.zero_le _)
      · skip
        refine aw_aload_n dX8_bounds_30 rfl ?_
        refine aw_iconst (v := nI 1) dX8_bounds_31 (by decide) ?_
        refine aw_putZ dX8_bounds_32 fwX8_223 hM.o (by decide) rfl ?_
        refine aw_aload_n dX8_bounds_35 rfl ?_
        refine aw_lload_n dX8_bounds_36 rfl ?_
        refine aw_pc (pc2 := 37) rfl ?_
        refine aw_putJ dX8_bounds_37 fwX8_227 hM.o rfl ?_
        refine aw_aload_n dX8_bounds_40 rfl ?_
        refine aw_lload_n dX8_bounds_41 rfl ?_
        refine aw_lneg dX8_bounds_42 ?_
        refine aw_putJ dX8_bounds_43 fwX8_230 hM.o rfl ?_
        try simp only [lcmpE, lcmpL, lcmpG, lcmpLE, lcmpGT, nrm_le, nrm_le64, Classical.not_not] at h1
        try simp only [lcmpE, lcmpL, lcmpG, lcmpLE, lcmpGT, nrm_le, nrm_le64, Classical.not_not] at h2
        try simp only [lcmpE, lcmpL, lcmpG, lcmpLE, lcmpGT, nrm_le, nrm_le64, Classical.not_not] at h3
        exact aw_vret dX8_bounds_46 rfl (hQ _ _ _ (by unfold rb_lim; rw [if_pos h1, if_neg h2, if_neg h3]) (rb_up (I := I) (J := J) (v := v) (u := -u))) (Nat.zero_le _) (Nat.zero_le _)
/-- how a line's slack moves -/
def rx_mv (I : aw_MI) (n m w l : Nat) : Int64 := sp_left (rp_ri I l) (rx_b I n m w) (fun i => rp_row I n l i) (rx_u I n m w) n
def rr_R (kd : Nat → Int32) (sl mv y z : Nat → Int64) (a0 b0 : Int64) : Nat → rb_S
  | 0 => (nI 0, a0, b0)
  | l + 1 => if sp_on (kd l) = 0 then rb_lim (rb_lim (rr_R kd sl mv y z a0 b0 l) (sl l) (mv l)) (y l) (z l) else rb_lim (rb_lim (rr_R kd sl mv y z a0 b0 l) (sl l) (mv l)) (-sl l) (-mv l)
def rr_X (I : aw_MI) (n m w : Nat) (t : Int32) (a0 b0 : Int64) : Nat → rb_S := rr_R (fun l => I 68 (6 * l)) (rx_sl I n m w t) (rx_mv I n m w) (rx_y I n m w t) (rx_z I n m w) a0 b0
def rr_F (I I' : aw_MI) : Prop := ∀ a k, ¬ (a = 65 ∧ (k = 13 ∨ k = 25)) → ¬ a = 77 → I' a k = I a k
def rr_J (J J' : aw_MJ) : Prop := ∀ a k, ¬ (a = 71 ∨ a = 72 ∨ a = 73 ∨ a = 74 ∨ a = 75 ∨ a = 76 ∨ a = 78) → ¬ (a = 65 ∧ (k = 18 ∨ k = 26 ∨ k = 27)) → J' a k = J a k
theorem rr_F.E {I I' : aw_MI} (h : rr_F I I') : rx_E I I' := ⟨funext fun k => h 66 k (by omega) (by omega), funext fun k => h 67 k (by omega) (by omega), funext fun k => h 68 k (by omega) (by omega)⟩
/-- in reach's loop -/
def rr_P (I0 : aw_MI) (J0 : aw_MJ) (n m w : Nat) (t : Int32) (I : aw_MI) (J : aw_MJ) (p : rb_S) : Prop := rr_F I0 I ∧ rr_J J0 J ∧ rx_At I0 n m w t J ∧ (∀ i, i < n → J 75 i = rx_u I0 n m w i) ∧ (∀ l, l < 6 → J 76 l = rx_z I0 n m w l) ∧ I 65 25 = p.1 ∧ J 65 26 = p.2.1 ∧ J 65 27 = p.2.2
theorem rr_s {I0 : aw_MI} {J0 : aw_MJ} {n m w : Nat} {t : Int32} {I I' : aw_MI} {J J' : aw_MJ} {p p' : rb_S} (h : rr_P I0 J0 n m w t I J p) (g : rb_P I I' J J' p') : rr_P I0 J0 n m w t I' J' p' := by
  obtain ⟨h1, h2, h3, h4, h5, h6, h7, h8⟩ := h
  obtain ⟨g1, g2, g3, g4, g5⟩ := g
  refine ⟨fun a k a1 a2 => ?_, fun a k a1 a2 => ?_, ⟨?_, fun i hi => ?_, fun l hl => ?_⟩, fun i hi => ?_, fun l hl => ?_, g3, g4, g5⟩
  · rw [g1 a k (by omega)]; exact h1 a k a1 a2
  · rw [g2 a k (by omega)]; exact h2 a k a1 a2
  · rw [g2 65 18 (by decide)]; exact h3.1
  · rw [g2 73 i (by omega)]; exact h3.2.1 i hi
  · rw [g2 74 l (by omega)]; exact h3.2.2 l hl
  · rw [g2 75 i (by omega)]; exact h4 i hi
  · rw [g2 76 l (by omega)]; exact h5 l hl
/-- the state: bound, then below it more than 0 -/
def rr_ok (p : rb_S) : Prop := ¬ p.1 = 0 → 0 < p.2.2
theorem neg_pos64 {u : Int64} (h : u < 0) (hm : ¬ u = Int64.minValue) : 0 < -u := by
  rw [Int64.lt_iff_toInt_lt] at h ⊢
  have h0 : (0 : Int64).toInt = 0 := rfl
  have h1 := Int64.le_toInt u
  have h2 : ¬ u.toInt = -2 ^ 63 := fun q => hm (Int64.toInt_inj.mp (by rw [q]; rfl))
  rw [Int64.toInt_neg, Int.bmod_eq_of_le (by omega) (by omega)]
  omega
theorem rr_lim {p : rb_S} {v u : Int64} (h : rr_ok p) (hm : ¬ u = Int64.minValue) : rr_ok (rb_lim p v u) := by
  unfold rb_lim
  split
  · rename_i hu
    split
    · exact fun _ => neg_pos64 hu hm
    · split
      · exact h
      · exact fun _ => neg_pos64 hu hm
  · exact h
theorem rb_lim1 {p : rb_S} {v u : Int64} : (rb_lim p v u).1 = 0 ∨ (rb_lim p v u).1 = p.1 ∨ (rb_lim p v u).1 = nI 1 := by
  unfold rb_lim
  split
  · split
    · exact Or.inr (Or.inr rfl)
    · split
      · exact Or.inr (Or.inl rfl)
      · exact Or.inr (Or.inr rfl)
  · exact Or.inr (Or.inl rfl)

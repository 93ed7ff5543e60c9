/-! THE CERTIFICATE told; reach; tides -/
theorem sp_shb_ne (b : Int64) (x y : Nat → Int64) (n m : Nat) : ¬ sp_shb b x y n m = 0 := by
  unfold sp_shb
  by_cases h : sp_g1 (sp_g1 b x n) y m = 0
  · rw [if_pos h]; decide
  · rw [if_neg h]; exact h
theorem aw_wr_sa {α : Type} (I : Nat → Nat → α) (a lo k n : Nat) (f : Nat → α) : aw_up (aw_wr I a (lo + k) n f) a (lo + (k + n)) (f n) = aw_wr I a (lo + k) (n + 1) f := by
  rw [← Nat.add_assoc]
  exact aw_wr_s I a (lo + k) n f

theorem lX2_tell2 {G : aw_G} {d : Nat} {Ω : aw_O} {I : aw_MI} {J : aw_MJ} {Q : aw_O → aw_MI → aw_MJ → Prop} {s c n m a k p : Nat} {sh : Int64} (hC : aw_cert Ω s c) (hn : I c 0 = nI n) (hn3 : n ≤ 3) (hm : I c 2 = nI m) (hm6 : m ≤ 6) (hA : aw_sheets Ω a) (hP : aw_point Ω p) (hk : k < 4) (hpa : p + 2 < a) (hca : c + 6 < a) (hsh : ¬ sh = 0) (hd : 1 ≤ d) (hQ : Q Ω (aw_up (aw_up I (a + 1) k (nI 1)) (a + 2) k (nI (n + m + 1))) (aw_up (aw_wr (aw_wr (aw_fr J (a + 3) (k * 12) 12 0) (a + 3) (k * 12) n (fun i => J (p + 1) i / sh)) (a + 3) (k * 12 + n) m (fun l => J (p + 2) l / sh)) (a + 3) (k * 12 + (n + m)) (J p 2 / sh))) : ∀ (z i : Nat), i ≤ m → m - i < z → AW G MX2_tell (aw_nx Ω) d 0 0 (aw_QV Q) Ω (aw_up (aw_up I (a + 1) k (nI 1)) (a + 2) k (nI (n + m + 1))) (aw_wr (aw_wr (aw_fr J (a + 3) (k * 12) 12 0) (a + 3) (k * 12) n (fun i => J (p + 1) i / sh)) (a + 3) (k * 12 + n) i (fun l => J (p + 2) l / sh)) 0 0 [.ref (aw_ad G s), .ref (aw_ad G p), .ref (aw_ad G a), .int (nI k), .int (nI n), .long sh, .null, .int (nI i)] 62 [] := by
  intro z
  induction z with
  | zero =>
    intro i h0 hz
    exact absurd hz (by omega)
  | succ z ih =>
    intro i h0 hz
    refine aw_iload dX2_tell_62 rfl ?_
    refine aw_aload_n dX2_tell_64 rfl ?_
    refine aw_getR dX2_tell_65 flX2_18 hC.o hC.p0 ?_
    refine aw_getIv (v := nI m) dX2_tell_68 flX2_28 hC.q0.o (by rw [aw_up_off _ _ (by omega), aw_up_off _ _ (by omega)]; exact hm) ?_
    refine aw_geN (t := 100) dX2_tell_71 (by decide) (by omega) (by omega) (fun h1 => ?_) (fun h1 => ?_)
    · skip
      refine aw_aload_n dX2_tell_100 rfl ?_
      refine aw_iload_n dX2_tell_101 rfl ?_
      refine aw_iload dX2_tell_102 rfl ?_
      refine aw_aload_n dX2_tell_104 rfl ?_
      refine aw_getR dX2_tell_105 flX2_18 hC.o hC.p0 ?_
      refine aw_pc (pc2 := 108) rfl ?_
      refine aw_getIv (v := nI m) dX2_tell_108 flX2_28 hC.q0.o (by rw [aw_up_off _ _ (by omega), aw_up_off _ _ (by omega)]; exact hm) ?_
      refine aw_iaddN dX2_tell_111 ?_
      refine aw_aload_n dX2_tell_112 rfl ?_
      refine aw_getJ dX2_tell_113 flX2_56 hP.o ?_
      refine aw_toL (by first | rw [aw_wr_off _ _ (by omega), aw_wr_off _ _ (by omega), aw_fr_off _ _ (by omega)] | rw [aw_wr_off _ _ (by omega), aw_fr_off _ _ (by omega)]) ?_
      refine aw_lload dX2_tell_116 rfl ?_
      refine aw_ldiv dX2_tell_118 hsh ?_
      refine aw_pc (pc2 := 119) rfl ?_
      refine aw_cvV (As := [_, _, _]) (d' := d - 1) dX2_tell_119 lkX2_49 hA.o (by omega) rfl rfl (Nat.le_of_ble_eq_true rfl) ⟨Nat.le_refl _, Nat.le_refl _⟩ (tX5_put hA hk (by omega) ?_)
      have e1 : i = m := by omega
      subst e1
      exact aw_vret dX2_tell_122 rfl (hQ) (Nat.zero_le _) (Nat.zero_le _)
    · skip
      refine aw_aload_n dX2_tell_74 rfl ?_
      refine aw_iload_n dX2_tell_75 rfl ?_
      refine aw_iload dX2_tell_76 rfl ?_
      refine aw_iload dX2_tell_78 rfl ?_
      refine aw_iaddN dX2_tell_80 ?_
      refine aw_pc (pc2 := 81) rfl ?_
      refine aw_aload_n dX2_tell_81 rfl ?_
      refine aw_getR dX2_tell_82 flX2_53 hP.o hP.p1 ?_
      refine aw_iload dX2_tell_85 rfl ?_
      refine aw_laldv (v := J (p + 2) i) dX2_tell_87 hP.s1 rfl (by omega) (by first | rw [aw_wr_off _ _ (by omega), aw_wr_off _ _ (by omega), aw_fr_off _ _ (by omega)] | rw [aw_wr_off _ _ (by omega), aw_fr_off _ _ (by omega)]) ?_
      refine aw_lload dX2_tell_88 rfl ?_
      refine aw_ldiv dX2_tell_90 hsh ?_
      refine aw_pc (pc2 := 91) rfl ?_
      refine aw_cvV (As := [_, _, _]) (d' := d - 1) dX2_tell_91 lkX2_49 hA.o (by omega) rfl rfl (Nat.le_of_ble_eq_true rfl) ⟨Nat.le_refl _, Nat.le_refl _⟩ (tX5_put hA hk (by omega) ?_)
      refine aw_iincN dX2_tell_94 rfl (by decide) ?_
      refine aw_lv (lv2 := [.ref _, .ref _, .ref _, .int _, .int _, .long _, .null, .int _]) rfl ?_
      refine aw_goto (t := 62) dX2_tell_97 (by decide) ?_
      refine aw_toM rfl (aw_wr_sa (aw_wr (aw_fr J (a + 3) (k * 12) 12 0) (a + 3) (k * 12) n (fun i => J (p + 1) i / sh)) (a + 3) (k * 12) n i (fun l => J (p + 2) l / sh)) ?_
      exact ih (i + 1) (by omega) (by omega)
theorem lX2_tell1 {G : aw_G} {d : Nat} {Ω : aw_O} {I : aw_MI} {J : aw_MJ} {Q : aw_O → aw_MI → aw_MJ → Prop} {s c n m a k p : Nat} {sh : Int64} (hC : aw_cert Ω s c) (hn : I c 0 = nI n) (hn3 : n ≤ 3) (hm : I c 2 = nI m) (hm6 : m ≤ 6) (hA : aw_sheets Ω a) (hP : aw_point Ω p) (hk : k < 4) (hpa : p + 2 < a) (hca : c + 6 < a) (hsh : ¬ sh = 0) (hd : 1 ≤ d) (hQ : Q Ω (aw_up (aw_up I (a + 1) k (nI 1)) (a + 2) k (nI (n + m + 1))) (aw_up (aw_wr (aw_wr (aw_fr J (a + 3) (k * 12) 12 0) (a + 3) (k * 12) n (fun i => J (p + 1) i / sh)) (a + 3) (k * 12 + n) m (fun l => J (p + 2) l / sh)) (a + 3) (k * 12 + (n + m)) (J p 2 / sh))) : ∀ (z i : Nat), i ≤ n → n - i < z → AW G MX2_tell (aw_nx Ω) d 0 0 (aw_QV Q) Ω (aw_up (aw_up I (a + 1) k (nI 1)) (a + 2) k (nI (n + m + 1))) (aw_wr (aw_fr J (a + 3) (k * 12) 12 0) (a + 3) (k * 12) i (fun i => J (p + 1) i / sh)) 0 0 [.ref (aw_ad G s), .ref (aw_ad G p), .ref (aw_ad G a), .int (nI k), .int (nI n), .long sh, .null, .int (nI i)] 29 [] := by
  intro z
  induction z with
  | zero =>
    intro i h0 hz
    exact absurd hz (by omega)
  | succ z ih =>
    intro i h0 hz
    refine aw_iload dX2_tell_29 rfl ?_
    refine aw_iload dX2_tell_31 rfl ?_
    refine aw_geN (t := 59) dX2_tell_33 (by decide) (by omega) (by omega) (fun h1 => ?_) (fun h1 => ?_)
    · skip
      refine aw_iconst (v := nI 0) dX2_tell_59 (by decide) ?_
      refine aw_istore dX2_tell_60 (by decide) ?_
      refine aw_lv (lv2 := [.ref _, .ref _, .ref _, .int _, .int _, .long _, .null, .int _]) rfl ?_
      have e1 : i = n := by omega
      subst e1
      refine aw_toM rfl (aw_wr_0 _ (a + 3) (k * 12 + i) (fun l => J (p + 2) l / sh)) ?_
      exact lX2_tell2 hC hn hn3 hm hm6 hA hP hk hpa hca hsh hd hQ (m + 1) 0 (by omega) (by omega)
    · skip
      refine aw_aload_n dX2_tell_36 rfl ?_
      refine aw_iload_n dX2_tell_37 rfl ?_
      refine aw_iload dX2_tell_38 rfl ?_
      refine aw_aload_n dX2_tell_40 rfl ?_
      refine aw_getR dX2_tell_41 flX2_45 hP.o hP.p0 ?_
      refine aw_pc (pc2 := 44) rfl ?_
      refine aw_iload dX2_tell_44 rfl ?_
      refine aw_laldv (v := J (p + 1) i) dX2_tell_46 hP.s0 rfl (by omega) (by first | rw [aw_wr_off _ _ (by omega), aw_wr_off _ _ (by omega), aw_fr_off _ _ (by omega)] | rw [aw_wr_off _ _ (by omega), aw_fr_off _ _ (by omega)]) ?_
      refine aw_lload dX2_tell_47 rfl ?_
      refine aw_ldiv dX2_tell_49 hsh ?_
      refine aw_cvV (As := [_, _, _]) (d' := d - 1) dX2_tell_50 lkX2_49 hA.o (by omega) rfl rfl (Nat.le_of_ble_eq_true rfl) ⟨Nat.le_refl _, Nat.le_refl _⟩ (tX5_put hA hk (by omega) ?_)
      refine aw_iincN dX2_tell_53 rfl (by decide) ?_
      refine aw_lv (lv2 := [.ref _, .ref _, .ref _, .int _, .int _, .long _, .null, .int _]) rfl ?_
      refine aw_pc (pc2 := 56) rfl ?_
      refine aw_goto (t := 29) dX2_tell_56 (by decide) ?_
      refine aw_toM rfl (aw_wr_s (aw_fr J (a + 3) (k * 12) 12 0) (a + 3) (k * 12) i (fun i => J (p + 1) i / sh)) ?_
      exact ih (i + 1) (by omega) (by omega)
theorem tX2_tell {G : aw_G} {d : Nat} {Ω : aw_O} {I : aw_MI} {J : aw_MJ} {Q : aw_O → aw_MI → aw_MJ → Prop} {s c n m a k p : Nat} (hC : aw_cert Ω s c) (hn : I c 0 = nI n) (hn3 : n ≤ 3) (hm : I c 2 = nI m) (hm6 : m ≤ 6) (hA : aw_sheets Ω a) (hP : aw_point Ω p) (hk : k < 4) (hpa : p + 2 < a) (hca : c + 6 < a) (hd : 3 ≤ d) (hQ : Q Ω (aw_up (aw_up I (a + 1) k (nI 1)) (a + 2) k (nI (n + m + 1))) (aw_up (aw_wr (aw_wr (aw_fr J (a + 3) (k * 12) 12 0) (a + 3) (k * 12) n (fun i => J (p + 1) i / (sp_shb (J p 2) (J (p + 1)) (J (p + 2)) n m))) (a + 3) (k * 12 + n) m (fun l => J (p + 2) l / (sp_shb (J p 2) (J (p + 1)) (J (p + 2)) n m))) (a + 3) (k * 12 + (n + m)) (J p 2 / (sp_shb (J p 2) (J (p + 1)) (J (p + 2)) n m)))) : aw_Call G MX2_tell d 0 0 [.ref (aw_ad G s), .ref (aw_ad G p), .ref (aw_ad G a), .int (nI k)] Ω I J (aw_QV Q) := by
  refine aw_enter (by decide +kernel) rfl (Nat.le_of_ble_eq_true rfl) ?_
  show AW G MX2_tell (aw_nx Ω) d 0 0 (aw_QV Q) Ω I J 0 0 [.ref (aw_ad G s), .ref (aw_ad G p), .ref (aw_ad G a), .int (nI k), .null, .null, .null, .null] 0 []
  refine aw_aload_n dX2_tell_0 rfl ?_
  refine aw_getR dX2_tell_1 flX2_18 hC.o hC.p0 ?_
  refine aw_getIv (v := nI n) dX2_tell_4 flX2_22 hC.q0.o hn ?_
  refine aw_istore dX2_tell_7 (by decide) ?_
  refine aw_lv (lv2 := [.ref _, .ref _, .ref _, .int _, .int _, .null, .null, .null]) rfl ?_
  refine aw_aload_n dX2_tell_9 rfl ?_
  refine aw_pc (pc2 := 10) rfl ?_
  refine aw_aload_n dX2_tell_10 rfl ?_
  refine aw_cvL (As := [_]) (d' := d - 1) dX2_tell_11 lkX2_31 hC.o (by omega) rfl rfl (Nat.le_of_ble_eq_true rfl) ⟨Nat.le_refl _, Nat.le_refl _⟩ (tX2_sharedBy hC hn hn3 hm hm6 hP (by omega) ?_)
  refine aw_lstore dX2_tell_14 (by decide) ?_
  refine aw_lv (lv2 := [.ref _, .ref _, .ref _, .int _, .int _, .long _, .null, .null]) rfl ?_
  refine aw_aload_n dX2_tell_16 rfl ?_
  refine aw_iload_n dX2_tell_17 rfl ?_
  refine aw_iconst (v := nI 1) dX2_tell_18 (by decide) ?_
  refine aw_pc (pc2 := 19) rfl ?_
  refine aw_aload_n dX2_tell_19 rfl ?_
  refine aw_cvI (As := []) (d' := d - 1) dX2_tell_20 lkX2_35 hC.o (by omega) rfl rfl (Nat.le_of_ble_eq_true rfl) ⟨Nat.le_refl _, Nat.le_refl _⟩ (tX2_length hC hn hn3 hm hm6 ?_)
  refine aw_cvV (As := [_, _, _]) (d' := d - 1) dX2_tell_23 lkX2_39 hA.o (by omega) rfl rfl (Nat.le_of_ble_eq_true rfl) ⟨Nat.le_refl _, Nat.le_refl _⟩ (tX5_begin hA hk (by omega) ?_)
  refine aw_iconst (v := nI 0) dX2_tell_26 (by decide) ?_
  refine aw_istore dX2_tell_27 (by decide) ?_
  refine aw_lv (lv2 := [.ref _, .ref _, .ref _, .int _, .int _, .long _, .null, .int _]) rfl ?_
  refine aw_toM rfl (aw_wr_0 (aw_fr J (a + 3) (k * 12) 12 0) (a + 3) (k * 12) (fun i => J (p + 1) i / (sp_shb (J p 2) (J (p + 1)) (J (p + 2)) n m))) ?_
  exact lX2_tell1 hC hn hn3 hm hm6 hA hP hk hpa hca (sp_shb_ne _ _ _ _ _) (by omega) hQ (n + 1) 0 (by omega) (by omega)
def sp_lim (p : Int64 × Int64) (v u : Int64) : Int64 × Int64 := if u < 0 then (if p.2 = 0 then (v, -u) else if sp_less 100 v (-u) p.1 p.2 = 0 then p else (v, -u)) else p
def sr_P (s : Nat) (J J' : aw_MJ) (p : Int64 × Int64) : Prop := (∀ a k, ¬ (a = s ∧ (k = 5 ∨ k = 6)) → J' a k = J a k) ∧ J' s 5 = p.1 ∧ J' s 6 = p.2
theorem sr_up {s : Nat} {J : aw_MJ} {v u : Int64} : sr_P s J (aw_up (aw_up J s 5 v) s 6 u) (v, u) := by
  refine ⟨fun a k h => ?_, ?_, aw_up_self _ _ _ _⟩
  · rw [aw_up_ne _ _ (by omega), aw_up_ne _ _ (by omega)]
  · rw [aw_up_ne _ _ (Or.inr (by decide)), aw_up_self]

theorem tX6_limitReach {G : aw_G} {d : Nat} {Ω : aw_O} {I : aw_MI} {J : aw_MJ} {Q : aw_O → aw_MI → aw_MJ → Prop} {s c : Nat} {v u : Int64} (hS : aw_solver Ω s c) (hd : 2 ≤ d) (hQ : ∀ J', sr_P s J J' (sp_lim (J s 5, J s 6) v u) → Q Ω I J') : aw_Call G MX6_limitReach d 0 0 [.ref (aw_ad G s), .long v, .long u] Ω I J (aw_QV Q) := by
  refine aw_enter (by decide +kernel) rfl (Nat.le_of_ble_eq_true rfl) ?_
  show AW G MX6_limitReach (aw_nx Ω) d 0 0 (aw_QV Q) Ω I J 0 0 [.ref (aw_ad G s), .long v, .null, .long u, .null] 0 []
  refine aw_lload_n dX6_limitReach_0 rfl ?_
  refine aw_lconst (v := 0) dX6_limitReach_1 (by decide) ?_
  refine aw_lcmp dX6_limitReach_2 ?_
  refine aw_if_lt (t := 7) dX6_limitReach_3 (by decide) (fun h1 => ?_) (fun h1 => ?_)
  · skip
    refine aw_aload_n dX6_limitReach_7 rfl ?_
    refine aw_getJ dX6_limitReach_8 flX6_159 hS.o ?_
    refine aw_lconst (v := 0) dX6_limitReach_11 (by decide) ?_
    refine aw_lcmp dX6_limitReach_12 ?_
    refine aw_if_eq (t := 33) dX6_limitReach_13 (by decide) (fun h2 => ?_) (fun h2 => ?_)
    · skip
      refine aw_aload_n dX6_limitReach_33 rfl ?_
      refine aw_lload_n dX6_limitReach_34 rfl ?_
      refine aw_putJ dX6_limitReach_35 fwX6_172 hS.o rfl ?_
      refine aw_aload_n dX6_limitReach_38 rfl ?_
      refine aw_lload_n dX6_limitReach_39 rfl ?_
      refine aw_pc (pc2 := 40) rfl ?_
      refine aw_lneg dX6_limitReach_40 ?_
      refine aw_putJ dX6_limitReach_41 fwX6_159 hS.o rfl ?_
      try simp only [lcmpE, lcmpL, lcmpG, lcmpLE, lcmpGT, nrm_le, nrm_le64, Classical.not_not] at h1
      try simp only [lcmpE, lcmpL, lcmpG, lcmpLE, lcmpGT, nrm_le, nrm_le64, Classical.not_not] at h2
      exact aw_vret dX6_limitReach_44 rfl (hQ _ (by have q := sr_up (s := s) (J := J) (v := v) (u := -u); simp only [sp_lim, if_pos h1, if_pos h2]; exact q)) (Nat.zero_le _) (Nat.zero_le _)
    · skip
      refine aw_lload_n dX6_limitReach_16 rfl ?_
      refine aw_lload_n dX6_limitReach_17 rfl ?_
      refine aw_lneg dX6_limitReach_18 ?_
      refine aw_aload_n dX6_limitReach_19 rfl ?_
      refine aw_getJ dX6_limitReach_20 flX6_172 hS.o ?_
      refine aw_pc (pc2 := 23) rfl ?_
      refine aw_aload_n dX6_limitReach_23 rfl ?_
      refine aw_getJ dX6_limitReach_24 flX6_159 hS.o ?_
      refine aw_csI (As := [_, _, _, _]) (d' := d - 1) dX6_limitReach_27 lkX6_175 (by omega) rfl rfl (Nat.le_of_ble_eq_true rfl) ⟨Nat.le_refl _, Nat.le_refl _⟩ (tX3_isLess (by omega) ?_)
      refine aw_if_eq (t := 44) dX6_limitReach_30 (by decide) (fun h3 => ?_) (fun h3 => ?_)
      · skip
        try simp only [lcmpE, lcmpL, lcmpG, lcmpLE, lcmpGT, nrm_le, nrm_le64, Classical.not_not] at h1
        try simp only [lcmpE, lcmpL, lcmpG, lcmpLE, lcmpGT, nrm_le, nrm_le64, Classical.not_not] at h2
        try simp only [lcmpE, lcmpL, lcmpG, lcmpLE, lcmpGT, nrm_le, nrm_le64, Classical.not_not] at h3
        exact aw_vret dX6_limitReach_44 rfl (hQ J ⟨fun _ _ _ => rfl, by simp only [sp_lim, if_pos h1, if_neg h2, if_pos h3], by simp only [sp_lim, if_pos h1, if_neg h2, if_pos h3]⟩) (Nat.zero_le _) (Nat.zero_le _)
      · skip
        refine aw_aload_n dX6_limitReach_33 rfl ?_
        refine aw_lload_n dX6_limitReach_34 rfl ?_
        refine aw_putJ dX6_limitReach_35 fwX6_172 hS.o rfl ?_
        refine aw_aload_n dX6_limitReach_38 rfl ?_
        refine aw_lload_n dX6_limitReach_39 rfl ?_
        refine aw_pc (pc2 := 40) rfl ?_
        refine aw_lneg dX6_limitReach_40 ?_
        refine aw_putJ dX6_limitReach_41 fwX6_159 hS.o rfl ?_
        try simp only [lcmpE, lcmpL, lcmpG, lcmpLE, lcmpGT, nrm_le, nrm_le64, Classical.not_not] at h1
        try simp only [lcmpE, lcmpL, lcmpG, lcmpLE, lcmpGT, nrm_le, nrm_le64, Classical.not_not] at h2
        try simp only [lcmpE, lcmpL, lcmpG, lcmpLE, lcmpGT, nrm_le, nrm_le64, Classical.not_not] at h3
        exact aw_vret dX6_limitReach_44 rfl (hQ _ (by have q := sr_up (s := s) (J := J) (v := v) (u := -u); simp only [sp_lim, if_pos h1, if_neg h2, if_neg h3]; exact q)) (Nat.zero_le _) (Nat.zero_le _)
  · skip
    try simp only [lcmpE, lcmpL, lcmpG, lcmpLE, lcmpGT, nrm_le, nrm_le64, Classical.not_not] at h1
    exact aw_vret dX6_limitReach_6 rfl (hQ J ⟨fun _ _ _ => rfl, by simp only [sp_lim, if_neg h1], by simp only [sp_lim, if_neg h1]⟩) (Nat.zero_le _) (Nat.zero_le _)
def sr_mv (I : aw_MI) (J : aw_MJ) (c p n l : Nat) : Int64 := sp_left (sp_dft I c l) (J p 2) (sp_rw I c l) (J (p + 1)) n
/-- the reach's least so far, line by line -/
def sr_R (kd : Nat → Int32) (sl mv y z : Nat → Int64) (a0 : Int64) : Nat → Int64 × Int64
  | 0 => (a0, 0)
  | l + 1 => if sp_on (kd l) = 0 then sp_lim (sp_lim (sr_R kd sl mv y z a0 l) (sl l) (mv l)) (y l) (z l) else sp_lim (sr_R kd sl mv y z a0 l) (sl l) (-sp_abs (mv l))
theorem sr_tr {s : Nat} {J J' J2 : aw_MJ} {p q : Int64 × Int64} (h : sr_P s J J' p) (g : sr_P s J' J2 q) : sr_P s J J2 q := ⟨fun a k hh => (g.1 a k hh).trans (h.1 a k hh), g.2⟩
theorem sr_slk {I : aw_MI} {s c n l : Nat} {h : Int32} {J J' : aw_MJ} {p : Int64 × Int64} (g : sr_P s J J' p) : sp_slk I J' c (s + 1) n h l = sp_slk I J c (s + 1) n h l := by
  unfold sp_slk
  rw [g.1 (s + 1) 2 (by omega), show J' (s + 1 + 1) = J (s + 1 + 1) from funext fun k => g.1 _ k (by omega)]
theorem sr_mvc {I : aw_MI} {s c n l : Nat} {J J' : aw_MJ} {p : Int64 × Int64} (g : sr_P s J J' p) : sr_mv I J' c (s + 4) n l = sr_mv I J c (s + 4) n l := by
  unfold sr_mv
  rw [g.1 (s + 4) 2 (by omega), show J' (s + 4 + 1) = J (s + 4 + 1) from funext fun k => g.1 _ k (by omega)]
theorem lX6_findReach {G : aw_G} {d : Nat} {Ω : aw_O} {I : aw_MI} {Q : Int32 → aw_O → aw_MI → aw_MJ → Prop} {s c n m : Nat} {a0 : Int64} {J0 : aw_MJ} (hS : aw_solver Ω s c) (hn : I c 0 = nI n) (hn3 : n ≤ 3) (hm : I c 2 = nI m) (hm6 : m ≤ 6) (hd : 3 ≤ d) (hF : ∀ J', sr_P s J0 J' (sr_R (I (c + 3)) (fun l => sp_slk I J0 c (s + 1) n (I s 10) l) (fun l => sr_mv I J0 c (s + 4) n l) (J0 (s + 3)) (J0 (s + 6)) a0 m) → (sr_R (I (c + 3)) (fun l => sp_slk I J0 c (s + 1) n (I s 10) l) (fun l => sr_mv I J0 c (s + 4) n l) (J0 (s + 3)) (J0 (s + 6)) a0 m).2 = 0 → Q (nI 0) Ω I J') (hQ : ∀ J', sr_P s J0 J' (sr_R (I (c + 3)) (fun l => sp_slk I J0 c (s + 1) n (I s 10) l) (fun l => sr_mv I J0 c (s + 4) n l) (J0 (s + 3)) (J0 (s + 6)) a0 m) → ¬ (sr_R (I (c + 3)) (fun l => sp_slk I J0 c (s + 1) n (I s 10) l) (fun l => sr_mv I J0 c (s + 4) n l) (J0 (s + 3)) (J0 (s + 6)) a0 m).2 = 0 → Q (nI 1) Ω I J') : ∀ (z i : Nat) (J : aw_MJ), i ≤ m → m - i < z → sr_P s J0 J (sr_R (I (c + 3)) (fun l => sp_slk I J0 c (s + 1) n (I s 10) l) (fun l => sr_mv I J0 c (s + 4) n l) (J0 (s + 3)) (J0 (s + 6)) a0 i) → AW G MX6_findReach (aw_nx Ω) d 0 0 (aw_QI Q) Ω I J 0 0 [.ref (aw_ad G s), .int (nI i), .null, .null] 7 [] := by
  intro z
  induction z with
  | zero =>
    intro i J h0 hz hP
    exact absurd hz (by omega)
  | succ z ih =>
    intro i J h0 hz hP
    refine aw_iload_n dX6_findReach_7 rfl ?_
    refine aw_aload_n dX6_findReach_8 rfl ?_
    refine aw_getR dX6_findReach_9 flX6_36 hS.o hS.p0 ?_
    refine aw_getIv (v := nI m) dX6_findReach_12 flX6_76 hS.q0.o hm ?_
    refine aw_geN (t := 105) dX6_findReach_15 (by decide) (by omega) (by omega) (fun h1 => ?_) (fun h1 => ?_)
    · skip
      refine aw_aload_n dX6_findReach_105 rfl ?_
      refine aw_getJ dX6_findReach_106 flX6_159 hS.o ?_
      refine aw_lconst (v := 0) dX6_findReach_109 (by decide) ?_
      refine aw_lcmp dX6_findReach_110 ?_
      refine aw_if_eq (t := 118) dX6_findReach_111 (by decide) (fun h2 => ?_) (fun h2 => ?_)
      · skip
        refine aw_iconst (v := nI 0) dX6_findReach_118 (by decide) ?_
        have e1 : i = m := by omega
        subst e1
        try simp only [lcmpE, lcmpL, lcmpG, lcmpLE, lcmpGT, nrm_le, nrm_le64, Classical.not_not] at h2
        rw [hP.2.2] at h2
        exact aw_zret dX6_findReach_119 rfl (by decide) (hF J hP h2) (Nat.zero_le _) (Nat.zero_le _)
      · skip
        refine aw_iconst (v := nI 1) dX6_findReach_114 (by decide) ?_
        refine aw_goto (t := 119) dX6_findReach_115 (by decide) ?_
        have e1 : i = m := by omega
        subst e1
        try simp only [lcmpE, lcmpL, lcmpG, lcmpLE, lcmpGT, nrm_le, nrm_le64, Classical.not_not] at h2
        rw [hP.2.2] at h2
        exact aw_zret dX6_findReach_119 rfl (by decide) (hQ J hP h2) (Nat.zero_le _) (Nat.zero_le _)
    · skip
      refine aw_aload_n dX6_findReach_18 rfl ?_
      refine aw_getR dX6_findReach_19 flX6_36 hS.o hS.p0 ?_
      refine aw_aload_n dX6_findReach_22 rfl ?_
      refine aw_getR dX6_findReach_23 flX6_36 hS.o hS.p0 ?_
      refine aw_iload_n dX6_findReach_26 rfl ?_
      refine aw_pc (pc2 := 27) rfl ?_
      refine aw_cvI (As := [_]) (d' := d - 1) dX6_findReach_27 lkX6_101 hS.q0.o (by omega) rfl rfl (Nat.le_of_ble_eq_true rfl) ⟨Nat.le_refl _, Nat.le_refl _⟩ (tX1_driftOf hS.q0 (by omega) (by omega) ?_)
      refine aw_iload_n dX6_findReach_30 rfl ?_
      refine aw_aload_n dX6_findReach_31 rfl ?_
      refine aw_getR dX6_findReach_32 flX6_18 hS.o hS.p2 ?_
      refine aw_cvL (As := [_, _, _]) (d' := d - 1) dX6_findReach_35 lkX6_134 hS.q0.o (by omega) rfl rfl (Nat.le_of_ble_eq_true rfl) ⟨Nat.le_refl _, Nat.le_refl _⟩ (tX1_leftOf hS.q0 hS.q2 hn hn3 (by omega) (by omega) ?_)
      refine aw_toL (show _ = sr_mv I J0 c (s + 4) n i from sr_mvc hP) ?_
      refine aw_lstore_n dX6_findReach_38 (by decide) ?_
      refine aw_lv (lv2 := [.ref _, .int _, .long _, .null]) rfl ?_
      refine aw_pc (pc2 := 39) rfl ?_
      refine aw_aload_n dX6_findReach_39 rfl ?_
      refine aw_getR dX6_findReach_40 flX6_36 hS.o hS.p0 ?_
      refine aw_iload_n dX6_findReach_43 rfl ?_
      refine aw_cvI (As := [_]) (d' := d - 1) dX6_findReach_44 lkX6_123 hS.q0.o (by omega) rfl rfl (Nat.le_of_ble_eq_true rfl) ⟨Nat.le_refl _, Nat.le_refl _⟩ (tX1_isOn hS.q0 (by omega) ?_)
      refine aw_if_eq (t := 67) dX6_findReach_47 (by decide) (fun h3 => ?_) (fun h3 => ?_)
      · skip
        refine aw_aload_n dX6_findReach_67 rfl ?_
        refine aw_aload_n dX6_findReach_68 rfl ?_
        refine aw_iload_n dX6_findReach_69 rfl ?_
        refine aw_cvL (As := [_]) (d' := d - 1) dX6_findReach_70 lkX6_126 hS.o (by omega) rfl rfl (Nat.le_of_ble_eq_true rfl) ⟨Nat.le_refl _, Nat.le_refl _⟩ (tX6_slackOf hS hn hn3 (by omega) (by omega) ?_)
        refine aw_toL (sr_slk hP) ?_
        refine aw_lload_n dX6_findReach_73 rfl ?_
        refine aw_pc (pc2 := 74) rfl ?_
        refine aw_cvV (As := [_, _]) (d' := d - 1) dX6_findReach_74 lkX6_168 hS.o (by omega) rfl rfl (Nat.le_of_ble_eq_true rfl) ⟨Nat.le_refl _, Nat.le_refl _⟩ (tX6_limitReach hS (by omega) ?_)
        · skip
          intro J1 g_J1
          rw [hP.2.1, hP.2.2] at g_J1
          refine aw_aload_n dX6_findReach_77 rfl ?_
          refine aw_aload_n dX6_findReach_78 rfl ?_
          refine aw_getR dX6_findReach_79 flX6_12 hS.o hS.p1 ?_
          refine aw_getR dX6_findReach_82 flX6_116 hS.q1.o hS.q1.p1 ?_
          refine aw_iload_n dX6_findReach_85 rfl ?_
          refine aw_pc (pc2 := 86) rfl ?_
          refine aw_laldv (v := J0 (s + 3) i) dX6_findReach_86 hS.q1.s1 rfl (by omega) (((sr_tr hP g_J1)).1 _ _ (by omega)) ?_
          refine aw_aload_n dX6_findReach_87 rfl ?_
          refine aw_getR dX6_findReach_88 flX6_18 hS.o hS.p2 ?_
          refine aw_getR dX6_findReach_91 flX6_116 hS.q2.o hS.q2.p1 ?_
          refine aw_iload_n dX6_findReach_94 rfl ?_
          refine aw_laldv (v := J0 (s + 6) i) dX6_findReach_95 hS.q2.s1 rfl (by omega) (((sr_tr hP g_J1)).1 _ _ (by omega)) ?_
          refine aw_pc (pc2 := 96) rfl ?_
          refine aw_cvV (As := [_, _]) (d' := d - 1) dX6_findReach_96 lkX6_168 hS.o (by omega) rfl rfl (Nat.le_of_ble_eq_true rfl) ⟨Nat.le_refl _, Nat.le_refl _⟩ (tX6_limitReach hS (by omega) ?_)
          · skip
            intro J2 g_J2
            rw [g_J1.2.1, g_J1.2.2] at g_J2
            refine aw_iincN dX6_findReach_99 rfl (by decide) ?_
            refine aw_lv (lv2 := [.ref _, .int _, .long _, .null]) rfl ?_
            refine aw_goto (t := 7) dX6_findReach_102 (by decide) ?_
            refine aw_frg 2 ?_
            exact ih (i + 1) J2 (by omega) (by omega) (by rw [sr_R, if_pos h3]; exact sr_tr (sr_tr hP g_J1) g_J2)
      · skip
        refine aw_aload_n dX6_findReach_50 rfl ?_
        refine aw_aload_n dX6_findReach_51 rfl ?_
        refine aw_iload_n dX6_findReach_52 rfl ?_
        refine aw_cvL (As := [_]) (d' := d - 1) dX6_findReach_53 lkX6_126 hS.o (by omega) rfl rfl (Nat.le_of_ble_eq_true rfl) ⟨Nat.le_refl _, Nat.le_refl _⟩ (tX6_slackOf hS hn hn3 (by omega) (by omega) ?_)
        refine aw_toL (sr_slk hP) ?_
        refine aw_lload_n dX6_findReach_56 rfl ?_
        refine aw_pc (pc2 := 57) rfl ?_
        refine aw_csL (As := [_]) (d' := d - 1) dX6_findReach_57 lkX6_162 (by omega) rfl rfl (Nat.le_of_ble_eq_true rfl) ⟨Nat.le_refl _, Nat.le_refl _⟩ (tJ9_abs_067f4 ?_)
        refine aw_lneg dX6_findReach_60 ?_
        refine aw_cvV (As := [_, _]) (d' := d - 1) dX6_findReach_61 lkX6_168 hS.o (by omega) rfl rfl (Nat.le_of_ble_eq_true rfl) ⟨Nat.le_refl _, Nat.le_refl _⟩ (tX6_limitReach hS (by omega) ?_)
        · skip
          intro J1 g_J1
          rw [hP.2.1, hP.2.2] at g_J1
          refine aw_goto (t := 99) dX6_findReach_64 (by decide) ?_
          refine aw_iincN dX6_findReach_99 rfl (by decide) ?_
          refine aw_lv (lv2 := [.ref _, .int _, .long _, .null]) rfl ?_
          refine aw_goto (t := 7) dX6_findReach_102 (by decide) ?_
          refine aw_frg 2 ?_
          exact ih (i + 1) J1 (by omega) (by omega) (by rw [sr_R, if_neg h3]; exact sr_tr hP g_J1)
theorem tX6_findReach {G : aw_G} {d : Nat} {Ω : aw_O} {I : aw_MI} {J : aw_MJ} {Q : Int32 → aw_O → aw_MI → aw_MJ → Prop} {s c n m : Nat} (hS : aw_solver Ω s c) (hn : I c 0 = nI n) (hn3 : n ≤ 3) (hm : I c 2 = nI m) (hm6 : m ≤ 6) (hd : 3 ≤ d) (hF : ∀ J', sr_P s J J' (sr_R (I (c + 3)) (fun l => sp_slk I J c (s + 1) n (I s 10) l) (fun l => sr_mv I J c (s + 4) n l) (J (s + 3)) (J (s + 6)) (J s 5) m) → (sr_R (I (c + 3)) (fun l => sp_slk I J c (s + 1) n (I s 10) l) (fun l => sr_mv I J c (s + 4) n l) (J (s + 3)) (J (s + 6)) (J s 5) m).2 = 0 → Q (nI 0) Ω I J') (hQ : ∀ J', sr_P s J J' (sr_R (I (c + 3)) (fun l => sp_slk I J c (s + 1) n (I s 10) l) (fun l => sr_mv I J c (s + 4) n l) (J (s + 3)) (J (s + 6)) (J s 5) m) → ¬ (sr_R (I (c + 3)) (fun l => sp_slk I J c (s + 1) n (I s 10) l) (fun l => sr_mv I J c (s + 4) n l) (J (s + 3)) (J (s + 6)) (J s 5) m).2 = 0 → Q (nI 1) Ω I J') : aw_Call G MX6_findReach d 0 0 [.ref (aw_ad G s)] Ω I J (aw_QI Q) := by
  refine aw_enter (by decide +kernel) rfl (Nat.le_of_ble_eq_true rfl) ?_
  show AW G MX6_findReach (aw_nx Ω) d 0 0 (aw_QI Q) Ω I J 0 0 [.ref (aw_ad G s), .null, .null, .null] 0 []
  refine aw_aload_n dX6_findReach_0 rfl ?_
  refine aw_lconst (v := 0) dX6_findReach_1 (by decide) ?_
  refine aw_putJ dX6_findReach_2 fwX6_159 hS.o rfl ?_
  refine aw_iconst (v := nI 0) dX6_findReach_5 (by decide) ?_
  refine aw_istore_n dX6_findReach_6 (by decide) ?_
  refine aw_lv (lv2 := [.ref _, .int _, .null, .null]) rfl ?_
  refine lX6_findReach (J0 := J) (a0 := J s 5) hS hn hn3 hm hm6 hd hF hQ (m + 1) 0 _ (by omega) (by omega) ⟨fun a k h => aw_up_ne _ _ (by omega), aw_up_ne _ _ (Or.inr (by decide)), aw_up_self _ _ _ _⟩

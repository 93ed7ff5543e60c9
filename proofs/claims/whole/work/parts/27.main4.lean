/-! THE CLASS: walk, tides, reach, the nearest, certificates, solve -/
theorem tX7_steps {G : aw_G} {d : Nat} {Ω : aw_O} {I : aw_MI} {J : aw_MJ} {Q : Int32 → aw_O → aw_MI → aw_MJ → Prop} {n m t : Nat} (hM : aw_main Ω 0) (hn : I 1 0 = nI n) (hn3 : n ≤ 3) (hm : I 1 2 = nI m) (hm6 : m ≤ 6) (ht : I 1 1 = nI t) (hd : 6 ≤ d) (kS : sp_hl (I 2) 1 n = 0 → Q (-3) Ω I J) (kN : ∀ I' J', ¬ sp_hl (I 2) 1 n = 0 → (∀ a, a < 22 ∨ 39 ≤ a → I' a = I a) → sv_J 22 J J' → (cw_go (cw_lo I 1 n m (nI t)) (cw_nx I 1 n m (nI t)) 64 (cx_find (cx_gb I 1 n m (nI 0) (nI t)) (nI 0) 1 0)).2 = 0 → Q (-1) Ω I' J') (hQ : ∀ I' J', ¬ sp_hl (I 2) 1 n = 0 → (∀ a, a < 22 ∨ 39 ≤ a → I' a = I a) → sv_J 22 J J' → ¬ (cw_go (cw_lo I 1 n m (nI t)) (cw_nx I 1 n m (nI t)) 64 (cx_find (cx_gb I 1 n m (nI 0) (nI t)) (nI 0) 1 0)).2 = 0 → Q (nI (cw_go (cw_lo I 1 n m (nI t)) (cw_nx I 1 n m (nI t)) 64 (cx_find (cx_gb I 1 n m (nI 0) (nI t)) (nI 0) 1 0)).1.length - nI 1) Ω I' J') : aw_Call G MX7_steps d 0 0 [.ref (aw_ad G 0)] Ω I J (aw_QI Q) := by
  refine aw_enter (by decide +kernel) rfl (Nat.le_of_ble_eq_true rfl) ?_
  show AW G MX7_steps (aw_nx Ω) d 0 0 (aw_QI Q) Ω I J 0 0 [.ref (aw_ad G 0)] 0 []
  refine aw_aload_n dX7_steps_0 rfl ?_
  refine aw_getR dX7_steps_1 flX7_10 hM.o hM.p0 ?_
  refine aw_cvI (As := []) (d' := d - 1) dX7_steps_4 lkX7_131 hM.q0.o (by omega) rfl rfl (Nat.le_of_ble_eq_true rfl) ⟨Nat.le_refl _, Nat.le_refl _⟩ (tX1_hasLeast hM.q0 hn hn3 (by omega) ?_)
  refine aw_if_ne (t := 13) dX7_steps_7 (by decide) (fun h1 => ?_) (fun h1 => ?_)
  · skip
    refine aw_aload_n dX7_steps_13 rfl ?_
    refine aw_getR dX7_steps_14 flX7_27 hM.o hM.p3 ?_
    refine aw_cvI (As := []) (d' := d - 1) dX7_steps_17 lkX7_190 hM.q3.o (by omega) rfl rfl (Nat.le_of_ble_eq_true rfl) ⟨Nat.le_refl _, Nat.le_refl _⟩ (tX6_goPath (t := nI t) hM.q3 hn hn3 hm hm6 ht (by decide) (by omega) ?_)
    · skip
      intro I1 J1 a1 b1 n1 p1
      refine aw_if_eq (t := 35) dX7_steps_20 (by decide) (fun h2 => ?_) (fun h2 => ?_)
      · skip
        refine aw_iconst (v := -1) dX7_steps_35 (by decide) ?_
        exact aw_iret dX7_steps_36 rfl (kN I1 J1 h1 a1 b1 h2) (Nat.zero_le _) (Nat.zero_le _)
      · skip
        refine aw_aload_n dX7_steps_23 rfl ?_
        refine aw_getR dX7_steps_24 flX7_27 hM.o hM.p3 ?_
        refine aw_getIv (v := (nI (cw_go (cw_lo I 1 n m (nI t)) (cw_nx I 1 n m (nI t)) 64 (cx_find (cx_gb I 1 n m (nI 0) (nI t)) (nI 0) 1 0)).1.length)) dX7_steps_27 flX7_193 hM.q3.o n1 ?_
        refine aw_iconst (v := nI 1) dX7_steps_30 (by decide) ?_
        refine aw_isub dX7_steps_31 ?_
        refine aw_pc (pc2 := 32) rfl ?_
        refine aw_goto (t := 36) dX7_steps_32 (by decide) ?_
        exact aw_iret dX7_steps_36 rfl (hQ I1 J1 h1 a1 b1 h2) (Nat.zero_le _) (Nat.zero_le _)
  · skip
    refine aw_bipush (v := -3) dX7_steps_10 (by decide) ?_
    exact aw_iret dX7_steps_12 rfl (kS h1) (Nat.zero_le _) (Nat.zero_le _)
theorem cw_len64 (lo nx : Nat → Int32) : ∀ (z : Nat) (st : Int32), (cw_go lo nx z st).1.length ≤ z
  | 0, _ => Nat.le_refl _
  | z + 1, st => by
    unfold cw_go
    by_cases h : st < 0
    · rw [if_pos h]; exact Nat.zero_le _
    · rw [if_neg h]
      by_cases h2 : lo st.toNatClampNeg = 0
      · rw [if_pos h2]; exact Nat.succ_le_succ (Nat.zero_le _)
      · rw [if_neg h2]; exact Nat.succ_le_succ (cw_len64 lo nx z _)
theorem tX7_walk {G : aw_G} {d : Nat} {Ω : aw_O} {I : aw_MI} {J : aw_MJ} {Q : Int32 → aw_O → aw_MI → aw_MJ → Prop} {x : Int32} {n m t : Nat} (hM : aw_main Ω 0) (hn : I 1 0 = nI n) (hn3 : n ≤ 3) (hm : I 1 2 = nI m) (hm6 : m ≤ 6) (ht : I 1 1 = nI t) (hd : 6 ≤ d) (kS : sp_hl (I 2) 1 n = 0 → Q (-3) Ω I J) (kP : ∀ I' J', ¬ sp_hl (I 2) 1 n = 0 → (∀ a, a < 22 ∨ 39 ≤ a → I' a = I a) → sv_J 22 J J' → x < 0 ∨ ¬ x < nI (cw_go (cw_lo I 1 n m (nI t)) (cw_nx I 1 n m (nI t)) 64 (cx_find (cx_gb I 1 n m (nI 0) (nI t)) (nI 0) 1 0)).1.length → Q (-12) Ω I' J') (hQ : ∀ k I' J', x = nI k → k < (cw_go (cw_lo I 1 n m (nI t)) (cw_nx I 1 n m (nI t)) 64 (cx_find (cx_gb I 1 n m (nI 0) (nI t)) (nI 0) 1 0)).1.length → ¬ sp_hl (I 2) 1 n = 0 → (∀ a, a < 22 ∨ 39 ≤ a → I' a = I a) → sv_J 22 J J' → Q ((cw_go (cw_lo I 1 n m (nI t)) (cw_nx I 1 n m (nI t)) 64 (cx_find (cx_gb I 1 n m (nI 0) (nI t)) (nI 0) 1 0)).1.getD k 0) Ω I' J') : aw_Call G MX7_walk d 0 0 [.ref (aw_ad G 0), .int x] Ω I J (aw_QI Q) := by
  refine aw_enter (by decide +kernel) rfl (Nat.le_of_ble_eq_true rfl) ?_
  show AW G MX7_walk (aw_nx Ω) d 0 0 (aw_QI Q) Ω I J 0 0 [.ref (aw_ad G 0), .int x] 0 []
  refine aw_aload_n dX7_walk_0 rfl ?_
  refine aw_getR dX7_walk_1 flX7_10 hM.o hM.p0 ?_
  refine aw_cvI (As := []) (d' := d - 1) dX7_walk_4 lkX7_131 hM.q0.o (by omega) rfl rfl (Nat.le_of_ble_eq_true rfl) ⟨Nat.le_refl _, Nat.le_refl _⟩ (tX1_hasLeast hM.q0 hn hn3 (by omega) ?_)
  refine aw_if_ne (t := 13) dX7_walk_7 (by decide) (fun h1 => ?_) (fun h1 => ?_)
  · skip
    refine aw_aload_n dX7_walk_13 rfl ?_
    refine aw_getR dX7_walk_14 flX7_27 hM.o hM.p3 ?_
    refine aw_cvI (As := []) (d' := d - 1) dX7_walk_17 lkX7_190 hM.q3.o (by omega) rfl rfl (Nat.le_of_ble_eq_true rfl) ⟨Nat.le_refl _, Nat.le_refl _⟩ (tX6_goPath (t := nI t) hM.q3 hn hn3 hm hm6 ht (by decide) (by omega) ?_)
    · skip
      intro I1 J1 a1 b1 n1 p1
      refine aw_pop dX7_walk_20 rfl ?_
      refine aw_iload_n dX7_walk_21 rfl ?_
      refine aw_if_lt (t := 36) dX7_walk_22 (by decide) (fun h2 => ?_) (fun h2 => ?_)
      · skip
        refine aw_bipush (v := -12) dX7_walk_36 (by decide) ?_
        refine aw_goto (t := 50) dX7_walk_38 (by decide) ?_
        exact aw_iret dX7_walk_50 rfl (kP I1 J1 h1 a1 b1 (Or.inl h2)) (Nat.zero_le _) (Nat.zero_le _)
      · skip
        refine aw_iload_n dX7_walk_25 rfl ?_
        refine aw_aload_n dX7_walk_26 rfl ?_
        refine aw_getR dX7_walk_27 flX7_27 hM.o hM.p3 ?_
        refine aw_getIv (v := (nI (cw_go (cw_lo I 1 n m (nI t)) (cw_nx I 1 n m (nI t)) 64 (cx_find (cx_gb I 1 n m (nI 0) (nI t)) (nI 0) 1 0)).1.length)) dX7_walk_30 flX7_193 hM.q3.o n1 ?_
        refine aw_icmp_lt (t := 41) dX7_walk_33 (by decide) (fun h3 => ?_) (fun h3 => ?_)
        · skip
          try simp only [lcmpE, lcmpL, lcmpG, lcmpLE, lcmpGT, nrm_le, nrm_le64, Classical.not_not] at h2
          obtain ⟨k, hk, rfl⟩ := sp_var1 (sp_var_of h2 h3)
          have h64 := cw_len64 (cw_lo I 1 n m (nI t)) (cw_nx I 1 n m (nI t)) 64 (cx_find (cx_gb I 1 n m (nI 0) (nI t)) (nI 0) 1 0)
          refine aw_aload_n dX7_walk_41 rfl ?_
          refine aw_getR dX7_walk_42 flX7_27 hM.o hM.p3 ?_
          refine aw_getR dX7_walk_45 flX7_196 hM.q3.o hM.q3.p3 ?_
          refine aw_iload_n dX7_walk_48 rfl ?_
          refine aw_iald dX7_walk_49 hM.q3.s3 rfl (by omega) ?_
          refine aw_pc (pc2 := 50) rfl ?_
          exact aw_iret dX7_walk_50 rfl (by rw [p1 k hk]; exact hQ k I1 J1 rfl hk h1 a1 b1) (Nat.zero_le _) (Nat.zero_le _)
        · skip
          refine aw_bipush (v := -12) dX7_walk_36 (by decide) ?_
          refine aw_goto (t := 50) dX7_walk_38 (by decide) ?_
          try simp only [lcmpE, lcmpL, lcmpG, lcmpLE, lcmpGT, nrm_le, nrm_le64, Classical.not_not] at h1
          try simp only [lcmpE, lcmpL, lcmpG, lcmpLE, lcmpGT, nrm_le, nrm_le64, Classical.not_not] at h2
          try simp only [lcmpE, lcmpL, lcmpG, lcmpLE, lcmpGT, nrm_le, nrm_le64, Classical.not_not] at h3
          exact aw_iret dX7_walk_50 rfl (kP I1 J1 h1 a1 b1 (Or.inr h3)) (Nat.zero_le _) (Nat.zero_le _)
  · skip
    refine aw_bipush (v := -3) dX7_walk_10 (by decide) ?_
    exact aw_iret dX7_walk_12 rfl (kS h1) (Nat.zero_le _) (Nat.zero_le _)
theorem tX7_pieces {G : aw_G} {d : Nat} {Ω : aw_O} {I : aw_MI} {J : aw_MJ} {Q : Int32 → aw_O → aw_MI → aw_MJ → Prop} {x : Int32} {n m t : Nat} (hM : aw_main Ω 0) (hn : I 1 0 = nI n) (hn3 : n ≤ 3) (hm : I 1 2 = nI m) (hm6 : m ≤ 6) (ht : I 1 1 = nI t) (hd : 6 ≤ d) (kB : x < nI 1 ∨ nI 40 < x → Q (-2) Ω I J) (kS : ¬ x < nI 1 → ¬ nI 40 < x → sp_hl (I 2) 1 n = 0 → Q (-3) Ω I J) (hQ : ∀ T I' J', x = nI T → 1 ≤ T → T ≤ 40 → ¬ sp_hl (I 2) 1 n = 0 → (∀ a, a < 22 ∨ 39 ≤ a → I' a = I a) → sv_J 22 J J' → Q (sp_ch (fun t => cx_fst (cx_gb I 1 n m (nI (2 ^ m - 1)) (nI t)) (2 ^ m)) T) Ω I' J') : aw_Call G MX7_pieces d 0 0 [.ref (aw_ad G 0), .int x] Ω I J (aw_QI Q) := by
  refine aw_enter (by decide +kernel) rfl (Nat.le_of_ble_eq_true rfl) ?_
  show AW G MX7_pieces (aw_nx Ω) d 0 0 (aw_QI Q) Ω I J 0 0 [.ref (aw_ad G 0), .int x] 0 []
  refine aw_iload_n dX7_pieces_0 rfl ?_
  refine aw_iconst (v := nI 1) dX7_pieces_1 (by decide) ?_
  refine aw_icmp_lt (t := 11) dX7_pieces_2 (by decide) (fun h1 => ?_) (fun h1 => ?_)
  · skip
    refine aw_bipush (v := -2) dX7_pieces_11 (by decide) ?_
    try simp only [lcmpE, lcmpL, lcmpG, lcmpLE, lcmpGT, nrm_le, nrm_le64, Classical.not_not] at h1
    exact aw_iret dX7_pieces_13 rfl (kB (Or.inl h1)) (Nat.zero_le _) (Nat.zero_le _)
  · skip
    refine aw_iload_n dX7_pieces_5 rfl ?_
    refine aw_bipush (v := nI 40) dX7_pieces_6 (by decide) ?_
    refine aw_icmp_le (t := 14) dX7_pieces_8 (by decide) (fun h2 => ?_) (fun h2 => ?_)
    · skip
      refine aw_aload_n dX7_pieces_14 rfl ?_
      refine aw_getR dX7_pieces_15 flX7_10 hM.o hM.p0 ?_
      refine aw_cvI (As := []) (d' := d - 1) dX7_pieces_18 lkX7_131 hM.q0.o (by omega) rfl rfl (Nat.le_of_ble_eq_true rfl) ⟨Nat.le_refl _, Nat.le_refl _⟩ (tX1_hasLeast hM.q0 hn hn3 (by omega) ?_)
      refine aw_if_eq (t := 35) dX7_pieces_21 (by decide) (fun h3 => ?_) (fun h3 => ?_)
      · skip
        refine aw_bipush (v := -3) dX7_pieces_35 (by decide) ?_
        try simp only [lcmpE, lcmpL, lcmpG, lcmpLE, lcmpGT, nrm_le, nrm_le64, Classical.not_not] at h1
        try simp only [lcmpE, lcmpL, lcmpG, lcmpLE, lcmpGT, nrm_le, nrm_le64, Classical.not_not] at h2
        try simp only [lcmpE, lcmpL, lcmpG, lcmpLE, lcmpGT, nrm_le, nrm_le64, Classical.not_not] at h3
        exact aw_iret dX7_pieces_37 rfl (kS h1 h2 h3) (Nat.zero_le _) (Nat.zero_le _)
      · skip
        simp only [lcmpE, lcmpL, lcmpG, lcmpLE, lcmpGT, nrm_le, nrm_le64, Classical.not_not] at h1 h2
        have g1 := h1
        have g2 := h2
        obtain ⟨T, rfl, T1, T3⟩ := nI_rng h1 h2 (by decide) (by decide)
        refine aw_aload_n dX7_pieces_24 rfl ?_
        refine aw_getR dX7_pieces_25 flX7_27 hM.o hM.p3 ?_
        refine aw_iload_n dX7_pieces_28 rfl ?_
        refine aw_cvI (As := [_]) (d' := d - 1) dX7_pieces_29 lkX7_199 hM.q3.o (by omega) rfl rfl (Nat.le_of_ble_eq_true rfl) ⟨Nat.le_refl _, Nat.le_refl _⟩ (tX6_changesTo hM.q3 hn hn3 hm hm6 (by decide) T3 (by omega) ?_)
        · skip
          intro I1 J1 a1 b1
          refine aw_goto (t := 37) dX7_pieces_32 (by decide) ?_
          exact aw_iret dX7_pieces_37 rfl (hQ T I1 J1 rfl T1 T3 h3 a1 b1) (Nat.zero_le _) (Nat.zero_le _)
    · skip
      refine aw_bipush (v := -2) dX7_pieces_11 (by decide) ?_
      try simp only [lcmpE, lcmpL, lcmpG, lcmpLE, lcmpGT, nrm_le, nrm_le64, Classical.not_not] at h1
      try simp only [lcmpE, lcmpL, lcmpG, lcmpLE, lcmpGT, nrm_le, nrm_le64, Classical.not_not] at h2
      exact aw_iret dX7_pieces_13 rfl (kB (Or.inr (h2))) (Nat.zero_le _) (Nat.zero_le _)
def cx_mv (I : aw_MI) (c n m w l : Nat) : Int64 := sp_left (sp_dft I c l) (cx_b I c n m w) (sp_rw I c l) (cx_u I c n m w) n
def cx_R (I : aw_MI) (c n m w : Nat) (t : Int32) (a0 : Int64) : Int64 × Int64 := sr_R (I (c + 3)) (cx_sl I c n m w t) (cx_mv I c n m w) (cx_y I c n m w t) (cx_z I c n m w) a0 m
theorem sr_R_c {kd kd' : Nat → Int32} {sl sl' mv mv' y y' z z' : Nat → Int64} {a0 : Int64} : ∀ {m : Nat}, (∀ l, l < m → kd l = kd' l ∧ sl l = sl' l ∧ mv l = mv' l ∧ y l = y' l ∧ z l = z' l) → sr_R kd sl mv y z a0 m = sr_R kd' sl' mv' y' z' a0 m
  | 0, _ => rfl
  | m + 1, h => by
    unfold sr_R
    obtain ⟨h1, h2, h3, h4, h5⟩ := h m (by omega)
    rw [sr_R_c (fun l hl => h l (by omega)), h1, h2, h3, h4, h5]
theorem cx_rch {I0 I : aw_MI} {J : aw_MJ} {c n m w s : Nat} {t : Int32} {a0 : Int64} (h : ∀ a, a < s → I a = I0 a) (hc : c + 6 < s) (ht : I s 10 = t) (hm : m ≤ 6) (hA : cx_At I0 c n m w t s J) : sr_R (I (c + 3)) (fun l => sp_slk I J c (s + 1) n (I s 10) l) (fun l => sr_mv I J c (s + 4) n l) (J (s + 3)) (J (s + 6)) a0 m = cx_R I0 c n m w t a0 := by
  unfold cx_R
  refine sr_R_c (fun l hl => ⟨by rw [h (c + 3) (by omega)], cx_slk h hc ht hA, ?_, (hA.2.2.2 l (by omega)).1, (hA.2.2.2 l (by omega)).2⟩)
  unfold sr_mv cx_mv
  rw [hA.2.1, sp_rw_c h hc, show sp_dft I c l = sp_dft I0 c l by simp only [sp_dft, sp_bd_c h hc]]
  exact sp_left_c (fun _ _ => rfl) (fun i hi => (hA.2.2.1 i hi).2)
theorem tX7_reach {G : aw_G} {d : Nat} {Ω : aw_O} {I : aw_MI} {J : aw_MJ} {Q : Int64 → aw_O → aw_MI → aw_MJ → Prop} {x : Int32} {n m t : Nat} (hM : aw_main Ω 0) (hn : I 1 0 = nI n) (hn3 : n ≤ 3) (hm : I 1 2 = nI m) (hm6 : m ≤ 6) (ht : I 1 1 = nI t) (hd : 6 ≤ d) (kB : sp_part x = 0 → Q (-4611686018427387904 + (-2 : Int32).toInt64) Ω I J) (kS : ¬ sp_part x = 0 → sp_hl (I 2) 1 n = 0 → Q (-4611686018427387904 + (-3 : Int32).toInt64) Ω I J) (kN : ∀ I' J', ¬ sp_part x = 0 → ¬ sp_hl (I 2) 1 n = 0 → sv_I 22 I I' → sv_J 22 J J' → cx_res I n m t (2 ^ m - 1) = -1 → Q (-4611686018427387904 + (-1 : Int32).toInt64) Ω I' J') (kZ : ∀ w a0 I' J', ¬ sp_part x = 0 → ¬ sp_hl (I 2) 1 n = 0 → w < 2 ^ m → sv_I 22 I I' → sv_J 22 J J' → cx_gb I 1 n m (nI (2 ^ m - 1)) (nI t) w = true → cx_res I n m t (2 ^ m - 1) = nI w → (cx_R I 1 n m w (nI t) a0).2 = 0 → Q (-4611686018427387905) Ω I' J') (hQ : ∀ w a0 I' J', ¬ sp_part x = 0 → ¬ sp_hl (I 2) 1 n = 0 → w < 2 ^ m → sv_I 22 I I' → sv_J 22 J J' → cx_gb I 1 n m (nI (2 ^ m - 1)) (nI t) w = true → cx_res I n m t (2 ^ m - 1) = nI w → ¬ (cx_R I 1 n m w (nI t) a0).2 = 0 → Q (sp_told (cx_R I 1 n m w (nI t) a0).1 (cx_R I 1 n m w (nI t) a0).2 x) Ω I' J') : aw_Call G MX7_reach d 0 0 [.ref (aw_ad G 0), .int x] Ω I J (aw_QL Q) := by
  refine aw_enter (by decide +kernel) rfl (Nat.le_of_ble_eq_true rfl) ?_
  show AW G MX7_reach (aw_nx Ω) d 0 0 (aw_QL Q) Ω I J 0 0 [.ref (aw_ad G 0), .int x, .null] 0 []
  have hpw : 0 < 2 ^ m := Nat.pos_of_ne_zero (by simp)
  have hS : 2 ^ m - 1 < 2 ^ m := by omega
  refine aw_aload_n dX7_reach_0 rfl ?_
  refine aw_iload_n dX7_reach_1 rfl ?_
  refine aw_csI (As := [_]) (d' := d - 1) dX7_reach_2 lkX7_142 (by omega) rfl rfl (Nat.le_of_ble_eq_true rfl) ⟨Nat.le_refl _, Nat.le_refl _⟩ (tX7_isPart ?_)
  refine aw_if_ne (t := 12) dX7_reach_5 (by decide) (fun h1 => ?_) (fun h1 => ?_)
  · skip
    refine aw_iconst (v := nI 0) dX7_reach_12 (by decide) ?_
    refine aw_aload_n dX7_reach_13 rfl ?_
    refine aw_getR dX7_reach_14 flX7_10 hM.o hM.p0 ?_
    refine aw_cvI (As := []) (d' := d - 1) dX7_reach_17 lkX7_202 hM.q0.o (by omega) rfl rfl (Nat.le_of_ble_eq_true rfl) ⟨Nat.le_refl _, Nat.le_refl _⟩ (tX1_allLines hM.q0 hm ?_)
    refine aw_toI (sp_all_nI m (by omega)) ?_
    refine aw_cvI (As := [_, _]) (d' := d - 1) dX7_reach_20 lkX7_138 hM.o (by omega) rfl rfl (Nat.le_of_ble_eq_true rfl) ⟨Nat.le_refl _, Nat.le_refl _⟩ (tX7_find hM hn hn3 hm hm6 ht hS (by omega) ?_ ?_ ?_)
    · skip
      intro p0
      refine aw_istore_n dX7_reach_23 (by decide) ?_
      refine aw_lv (lv2 := [.ref _, .int _, .int _]) rfl ?_
      refine aw_iload_n dX7_reach_24 rfl ?_
      refine aw_if_ge (t := 35) dX7_reach_25 (by decide) (fun h2 => absurd h2 (by decide)) (fun h2 => ?_)
      refine aw_ldc2 (v := -4611686018427387904) dX7_reach_28 (aw_pl 502 (by decide +kernel) rfl) ?_
      refine aw_iload_n dX7_reach_31 rfl ?_
      refine aw_pc (pc2 := 32) rfl ?_
      refine aw_i2l dX7_reach_32 ?_
      refine aw_ladd dX7_reach_33 ?_
      exact aw_lret dX7_reach_34 rfl (kS h1 p0) (Nat.zero_le _) (Nat.zero_le _)
    · skip
      intro I1 J1 p0 a1 b1 f1
      refine aw_istore_n dX7_reach_23 (by decide) ?_
      refine aw_lv (lv2 := [.ref _, .int _, .int _]) rfl ?_
      refine aw_iload_n dX7_reach_24 rfl ?_
      refine aw_if_ge (t := 35) dX7_reach_25 (by decide) (fun h3 => absurd h3 (by decide)) (fun h3 => ?_)
      refine aw_ldc2 (v := -4611686018427387904) dX7_reach_28 (aw_pl 502 (by decide +kernel) rfl) ?_
      refine aw_iload_n dX7_reach_31 rfl ?_
      refine aw_pc (pc2 := 32) rfl ?_
      refine aw_i2l dX7_reach_32 ?_
      refine aw_ladd dX7_reach_33 ?_
      exact aw_lret dX7_reach_34 rfl (kN I1 J1 h1 p0 a1 b1 f1) (Nat.zero_le _) (Nat.zero_le _)
    · skip
      intro w I1 J1 p0 hw a1 b1 g1 t1 A1 f1
      have h64 : 2 ^ m ≤ 2 ^ 6 := Nat.pow_le_pow_right (by decide) hm6
      have hn1 : I1 1 0 = nI n := by rw [a1.1 1 (by decide)]; exact hn
      have hm1 : I1 1 2 = nI m := by rw [a1.1 1 (by decide)]; exact hm
      refine aw_istore_n dX7_reach_23 (by decide) ?_
      refine aw_lv (lv2 := [.ref _, .int _, .int _]) rfl ?_
      refine aw_iload_n dX7_reach_24 rfl ?_
      refine aw_if_ge (t := 35) dX7_reach_25 (by decide) (fun h4 => ?_) (fun h4 => ?_)
      · skip
        refine aw_aload_n dX7_reach_35 rfl ?_
        refine aw_getR dX7_reach_36 flX7_27 hM.o hM.p3 ?_
        refine aw_cvI (As := []) (d' := d - 1) dX7_reach_39 lkX7_205 hM.q3.o (by omega) rfl rfl (Nat.le_of_ble_eq_true rfl) ⟨Nat.le_refl _, Nat.le_refl _⟩ (tX6_findReach hM.q3 hn1 hn3 hm1 hm6 (by omega) ?_ ?_)
        · skip
          intro J2 r2 e2
          rw [show (_ : Int64 × Int64) = _ from cx_rch (fun a ha => a1.1 a (Or.inl ha)) (by decide) t1 hm6 A1] at r2 e2
          refine aw_if_ne (t := 49) dX7_reach_42 (by decide) (fun h5 => absurd h5 (by decide)) (fun h5 => ?_)
          refine aw_ldc2 (v := -4611686018427387905) dX7_reach_45 (aw_pl 596 (by decide +kernel) rfl) ?_
          exact aw_lret dX7_reach_48 rfl (kZ w (J1 22 5) I1 J2 h1 p0 (by omega) a1 (fun a ha => (funext fun k => r2.1 a k (by omega)).trans (b1 a ha)) g1 f1 e2) (Nat.zero_le _) (Nat.zero_le _)
        · skip
          intro J2 r2 e2
          rw [show (_ : Int64 × Int64) = _ from cx_rch (fun a ha => a1.1 a (Or.inl ha)) (by decide) t1 hm6 A1] at r2 e2
          refine aw_if_ne (t := 49) dX7_reach_42 (by decide) (fun h6 => ?_) (fun h6 => absurd h6 (by decide))
          refine aw_aload_n dX7_reach_49 rfl ?_
          refine aw_getR dX7_reach_50 flX7_27 hM.o hM.p3 ?_
          refine aw_getJ dX7_reach_53 flX7_210 hM.q3.o ?_
          refine aw_toL r2.2.1 ?_
          refine aw_aload_n dX7_reach_56 rfl ?_
          refine aw_pc (pc2 := 57) rfl ?_
          refine aw_getR dX7_reach_57 flX7_27 hM.o hM.p3 ?_
          refine aw_getJ dX7_reach_60 flX7_213 hM.q3.o ?_
          refine aw_toL r2.2.2 ?_
          refine aw_iload_n dX7_reach_63 rfl ?_
          refine aw_csL (As := [_, _, _]) (d' := d - 1) dX7_reach_64 lkX7_161 (by omega) rfl rfl (Nat.le_of_ble_eq_true rfl) ⟨Nat.le_refl _, Nat.le_refl _⟩ (tX3_told (by omega) ?_)
          exact aw_lret dX7_reach_67 rfl (hQ w (J1 22 5) I1 J2 h1 p0 (by omega) a1 (fun a ha => (funext fun k => r2.1 a k (by omega)).trans (b1 a ha)) g1 f1 e2) (Nat.zero_le _) (Nat.zero_le _)
      · skip
        exact absurd (nI_pos' (by omega)) h4
  · skip
    refine aw_iconst (v := nI 1) dX7_reach_8 (by decide) ?_
    refine aw_goto (t := 13) dX7_reach_9 (by decide) ?_
    refine aw_aload_n dX7_reach_13 rfl ?_
    refine aw_getR dX7_reach_14 flX7_10 hM.o hM.p0 ?_
    refine aw_cvI (As := []) (d' := d - 1) dX7_reach_17 lkX7_202 hM.q0.o (by omega) rfl rfl (Nat.le_of_ble_eq_true rfl) ⟨Nat.le_refl _, Nat.le_refl _⟩ (tX1_allLines hM.q0 hm ?_)
    refine aw_toI (sp_all_nI m (by omega)) ?_
    refine aw_cvI (As := [_, _]) (d' := d - 1) dX7_reach_20 lkX7_138 hM.o (by omega) rfl rfl (Nat.le_of_ble_eq_true rfl) ⟨Nat.le_refl _, Nat.le_refl _⟩ (tX7_findB hM ?_)
    · skip
      refine aw_istore_n dX7_reach_23 (by decide) ?_
      refine aw_lv (lv2 := [.ref _, .int _, .int _]) rfl ?_
      refine aw_iload_n dX7_reach_24 rfl ?_
      refine aw_if_ge (t := 35) dX7_reach_25 (by decide) (fun h7 => absurd h7 (by decide)) (fun h7 => ?_)
      refine aw_ldc2 (v := -4611686018427387904) dX7_reach_28 (aw_pl 502 (by decide +kernel) rfl) ?_
      refine aw_iload_n dX7_reach_31 rfl ?_
      refine aw_pc (pc2 := 32) rfl ?_
      refine aw_i2l dX7_reach_32 ?_
      refine aw_ladd dX7_reach_33 ?_
      exact aw_lret dX7_reach_34 rfl (kB h1) (Nat.zero_le _) (Nat.zero_le _)
/-- the book's least, another offered -/
def sp_off (p : Int64 × Int64) (a b : Int64) : Int64 × Int64 := if p.2 = 0 then (a, b) else if sp_less 100 a b p.1 p.2 = 0 then p else (a, b)
/-- the book behind a solve that found v, and the least -/
def bk_P (I I' : aw_MI) (J J' : aw_MJ) (v : Int32) (p : Int64 × Int64) : Prop := (∀ a, a < 22 ∨ (39 ≤ a ∧ a ≠ 64) → I' a = I a ∧ J' a = J a) ∧ I' 64 0 = I 64 0 + nI 1 ∧ J' 64 1 = J 64 1 * 31 + v.toInt64 ∧ J' 64 4 = (J 64 4 <<< ((nI 8).toInt64 &&& 63) ||| (v &&& nI 255).toInt64) ∧ J' 64 2 = p.1 ∧ J' 64 3 = p.2
theorem bk_of {I I1 : aw_MI} {J J1 : aw_MJ} {v : Int32} {a b : Int64} (a1 : sv_I 22 I I1) (b1 : sv_J 22 J J1) : bk_P I (aw_up I1 64 0 (I1 64 0 + nI 1)) J (if (aw_up (aw_up J1 64 1 (J1 64 1 * 31 + v.toInt64)) 64 4 (J1 64 4 <<< ((nI 8).toInt64 &&& 63) ||| (v &&& nI 255).toInt64)) 64 3 = 0 then aw_up (aw_up (aw_up (aw_up J1 64 1 (J1 64 1 * 31 + v.toInt64)) 64 4 (J1 64 4 <<< ((nI 8).toInt64 &&& 63) ||| (v &&& nI 255).toInt64)) 64 2 a) 64 3 b else if sp_less 100 a b ((aw_up (aw_up J1 64 1 (J1 64 1 * 31 + v.toInt64)) 64 4 (J1 64 4 <<< ((nI 8).toInt64 &&& 63) ||| (v &&& nI 255).toInt64)) 64 2) ((aw_up (aw_up J1 64 1 (J1 64 1 * 31 + v.toInt64)) 64 4 (J1 64 4 <<< ((nI 8).toInt64 &&& 63) ||| (v &&& nI 255).toInt64)) 64 3) = 0 then aw_up (aw_up J1 64 1 (J1 64 1 * 31 + v.toInt64)) 64 4 (J1 64 4 <<< ((nI 8).toInt64 &&& 63) ||| (v &&& nI 255).toInt64) else aw_up (aw_up (aw_up (aw_up J1 64 1 (J1 64 1 * 31 + v.toInt64)) 64 4 (J1 64 4 <<< ((nI 8).toInt64 &&& 63) ||| (v &&& nI 255).toInt64)) 64 2 a) 64 3 b) v (sp_off (J 64 2, J 64 3) a b) := by
  have e64 := b1 64 (by decide)
  generalize hX : aw_up (aw_up J1 64 1 (J1 64 1 * 31 + v.toInt64)) 64 4 (J1 64 4 <<< ((nI 8).toInt64 &&& 63) ||| (v &&& nI 255).toInt64) = X
  have x1 : X 64 1 = J 64 1 * 31 + v.toInt64 := by rw [← hX, aw_up_ne _ _ (Or.inr (by decide)), aw_up_self, e64]
  have x4 : X 64 4 = (J 64 4 <<< ((nI 8).toInt64 &&& 63) ||| (v &&& nI 255).toInt64) := by rw [← hX, aw_up_self, e64]
  have x2 : X 64 2 = J 64 2 := by rw [← hX, aw_up_ne _ _ (Or.inr (by decide)), aw_up_ne _ _ (Or.inr (by decide)), e64]
  have x3 : X 64 3 = J 64 3 := by rw [← hX, aw_up_ne _ _ (Or.inr (by decide)), aw_up_ne _ _ (Or.inr (by decide)), e64]
  have xo : ∀ a, a < 22 ∨ (39 ≤ a ∧ a ≠ 64) → X a = J a := fun a ha => by rw [← hX, aw_up_off _ _ (by omega), aw_up_off _ _ (by omega)]; exact b1 a (by omega)
  have io : ∀ a, a < 22 ∨ (39 ≤ a ∧ a ≠ 64) → aw_up I1 64 0 (I1 64 0 + nI 1) a = I a := fun a ha => by rw [aw_up_off _ _ (by omega)]; exact a1.1 a (by omega)
  have i0 : aw_up I1 64 0 (I1 64 0 + nI 1) 64 0 = I 64 0 + nI 1 := by rw [aw_up_self, a1.1 64 (by decide)]
  have put : bk_P I (aw_up I1 64 0 (I1 64 0 + nI 1)) J (aw_up (aw_up X 64 2 a) 64 3 b) v (a, b) := ⟨fun q hq => ⟨io q hq, by rw [aw_up_off _ _ (by omega), aw_up_off _ _ (by omega)]; exact xo q hq⟩, i0, by rw [aw_up_ne _ _ (Or.inr (by decide)), aw_up_ne _ _ (Or.inr (by decide)), x1], by rw [aw_up_ne _ _ (Or.inr (by decide)), aw_up_ne _ _ (Or.inr (by decide)), x4], by rw [aw_up_ne _ _ (Or.inr (by decide)), aw_up_self], by rw [aw_up_self]⟩
  unfold sp_off
  rw [x2, x3]
  by_cases h : J 64 3 = 0
  · rw [if_pos h, if_pos h]
    exact put
  · rw [if_neg h, if_neg h]
    by_cases h2 : sp_less 100 a b (J 64 2) (J 64 3) = 0
    · rw [if_pos h2, if_pos h2]
      exact ⟨fun q hq => ⟨io q hq, xo q hq⟩, i0, x1, x4, x2, x3⟩
    · rw [if_neg h2, if_neg h2]
      exact put
theorem cx_At_J {s c n m w : Nat} {t : Int32} {I : aw_MI} {J J' : aw_MJ} (h : ∀ a, a < s + 17 → J' a = J a) (hA : cx_At I c n m w t s J) : cx_At I c n m w t s J' := by
  unfold cx_At at hA ⊢
  rw [h (s + 1) (by omega), h (s + 2) (by omega), h (s + 3) (by omega), h (s + 4) (by omega), h (s + 5) (by omega), h (s + 6) (by omega)]
  exact hA
theorem nI_m3 {w : Nat} (h : w < 2 ^ 31) : ¬ nI w = -3 := by
  intro e
  have h2 := congrArg Int32.toInt e
  rw [nI_toInt h] at h2
  have h3 : (-3 : Int32).toInt = -3 := by decide
  omega
theorem tX7_solve {G : aw_G} {d : Nat} {Ω : aw_O} {I : aw_MI} {J : aw_MJ} {Q : Int32 → aw_O → aw_MI → aw_MJ → Prop} {n m t : Nat} (hM : aw_main Ω 0) (hn : I 1 0 = nI n) (hn3 : n ≤ 3) (hm : I 1 2 = nI m) (hm6 : m ≤ 6) (ht : I 1 1 = nI t) (hd : 6 ≤ d) (kS : sp_hl (I 2) 1 n = 0 → Q (-3) Ω I J) (kN : ∀ I' J', ¬ sp_hl (I 2) 1 n = 0 → cx_res I n m t (2 ^ m - 1) = -1 → bk_P I I' J J' (-1) (J 64 2, J 64 3) → Q (-1) Ω I' J') (hQ : ∀ w I' J', ¬ sp_hl (I 2) 1 n = 0 → w < 2 ^ m → cx_gb I 1 n m (nI (2 ^ m - 1)) (nI t) w = true → cx_res I n m t (2 ^ m - 1) = nI w → bk_P I I' J J' (nI w) (sp_off (J 64 2, J 64 3) (cx_wo I 1 n m w (nI t)) (2 * cx_b I 1 n m w)) → Q (nI w) Ω I' J') : aw_Call G MX7_solve d 0 0 [.ref (aw_ad G 0)] Ω I J (aw_QI Q) := by
  refine aw_enter (by decide +kernel) rfl (Nat.le_of_ble_eq_true rfl) ?_
  show AW G MX7_solve (aw_nx Ω) d 0 0 (aw_QI Q) Ω I J 0 0 [.ref (aw_ad G 0), .null] 0 []
  have hpw : 0 < 2 ^ m := Nat.pos_of_ne_zero (by simp)
  have hS : 2 ^ m - 1 < 2 ^ m := by omega
  refine aw_aload_n dX7_solve_0 rfl ?_
  refine aw_iconst (v := nI 0) dX7_solve_1 (by decide) ?_
  refine aw_aload_n dX7_solve_2 rfl ?_
  refine aw_getR dX7_solve_3 flX7_10 hM.o hM.p0 ?_
  refine aw_cvI (As := []) (d' := d - 1) dX7_solve_6 lkX7_202 hM.q0.o (by omega) rfl rfl (Nat.le_of_ble_eq_true rfl) ⟨Nat.le_refl _, Nat.le_refl _⟩ (tX1_allLines hM.q0 hm ?_)
  refine aw_toI (sp_all_nI m (by omega)) ?_
  refine aw_pc (pc2 := 9) rfl ?_
  refine aw_cvI (As := [_, _]) (d' := d - 1) dX7_solve_9 lkX7_138 hM.o (by omega) rfl rfl (Nat.le_of_ble_eq_true rfl) ⟨Nat.le_refl _, Nat.le_refl _⟩ (tX7_find hM hn hn3 hm hm6 ht hS (by omega) ?_ ?_ ?_)
  · skip
    intro p0
    refine aw_istore_n dX7_solve_12 (by decide) ?_
    refine aw_lv (lv2 := [.ref _, .int _]) rfl ?_
    refine aw_iload_n dX7_solve_13 rfl ?_
    refine aw_bipush (v := -3) dX7_solve_14 (by decide) ?_
    refine aw_icmp_ne (t := 22) dX7_solve_16 (by decide) (fun h1 => absurd h1 (by decide)) (fun h1 => ?_)
    refine aw_bipush (v := -3) dX7_solve_19 (by decide) ?_
    refine aw_pc (pc2 := 21) rfl ?_
    exact aw_iret dX7_solve_21 rfl (kS p0) (Nat.zero_le _) (Nat.zero_le _)
  · skip
    intro I1 J1 p0 a1 b1 f1
    refine aw_istore_n dX7_solve_12 (by decide) ?_
    refine aw_lv (lv2 := [.ref _, .int _]) rfl ?_
    refine aw_iload_n dX7_solve_13 rfl ?_
    refine aw_bipush (v := -3) dX7_solve_14 (by decide) ?_
    refine aw_icmp_ne (t := 22) dX7_solve_16 (by decide) (fun h2 => ?_) (fun h2 => absurd h2 (by decide))
    refine aw_aload_n dX7_solve_22 rfl ?_
    refine aw_pc (pc2 := 23) rfl ?_
    refine aw_getR dX7_solve_23 flX7_51 hM.o hM.p7 ?_
    refine aw_iload_n dX7_solve_26 rfl ?_
    refine aw_cvV (As := [_]) (d' := d - 1) dX7_solve_27 lkX7_252 hM.q7.o (by omega) rfl rfl (Nat.le_of_ble_eq_true rfl) ⟨Nat.le_refl _, Nat.le_refl _⟩ (tX0_write hM.q7 ?_)
    refine aw_iload_n dX7_solve_30 rfl ?_
    refine aw_if_lt (t := 62) dX7_solve_31 (by decide) (fun h3 => ?_) (fun h3 => absurd h3 (by decide))
    refine aw_iload_n dX7_solve_62 rfl ?_
    refine aw_pc (pc2 := 63) rfl ?_
    exact aw_iret dX7_solve_63 rfl (kN _ _ p0 f1 ⟨(fun a ha => ⟨by rw [aw_up_off _ _ (by omega)]; exact a1.1 a (by omega), by rw [aw_up_off _ _ (by omega), aw_up_off _ _ (by omega)]; exact b1 a (by omega)⟩), by rw [aw_up_self, a1.1 64 (by decide)], by rw [aw_up_ne _ _ (Or.inr (by decide)), aw_up_self, b1 64 (by decide)], by rw [aw_up_self, b1 64 (by decide)], by rw [aw_up_ne _ _ (Or.inr (by decide)), aw_up_ne _ _ (Or.inr (by decide)), b1 64 (by decide)], by rw [aw_up_ne _ _ (Or.inr (by decide)), aw_up_ne _ _ (Or.inr (by decide)), b1 64 (by decide)]⟩) (Nat.zero_le _) (Nat.zero_le _)
  · skip
    intro w I1 J1 p0 hw a1 b1 g1 t1 A1 f1
    have h64 : 2 ^ m ≤ 2 ^ 6 := Nat.pow_le_pow_right (by decide) hm6
    have hn1 : I1 1 0 = nI n := by rw [a1.1 1 (by decide)]; exact hn
    have hm1 : I1 1 2 = nI m := by rw [a1.1 1 (by decide)]; exact hm
    refine aw_istore_n dX7_solve_12 (by decide) ?_
    refine aw_lv (lv2 := [.ref _, .int _]) rfl ?_
    refine aw_iload_n dX7_solve_13 rfl ?_
    refine aw_bipush (v := -3) dX7_solve_14 (by decide) ?_
    refine aw_icmp_ne (t := 22) dX7_solve_16 (by decide) (fun h4 => ?_) (fun h4 => ?_)
    · skip
      refine aw_aload_n dX7_solve_22 rfl ?_
      refine aw_getR dX7_solve_23 flX7_51 hM.o hM.p7 ?_
      refine aw_iload_n dX7_solve_26 rfl ?_
      refine aw_cvV (As := [_]) (d' := d - 1) dX7_solve_27 lkX7_252 hM.q7.o (by omega) rfl rfl (Nat.le_of_ble_eq_true rfl) ⟨Nat.le_refl _, Nat.le_refl _⟩ (tX0_write hM.q7 ?_)
      refine aw_iload_n dX7_solve_30 rfl ?_
      refine aw_pc (pc2 := 31) rfl ?_
      refine aw_if_lt (t := 62) dX7_solve_31 (by decide) (fun h5 => ?_) (fun h5 => ?_)
      · skip
        exact absurd h5 (nI_pos (by omega))
      · skip
        refine aw_aload_n dX7_solve_34 rfl ?_
        refine aw_getR dX7_solve_35 flX7_51 hM.o hM.p7 ?_
        refine aw_aload_n dX7_solve_38 rfl ?_
        refine aw_getR dX7_solve_39 flX7_27 hM.o hM.p3 ?_
        refine aw_cvL (As := []) (d' := d - 1) dX7_solve_42 lkX7_167 hM.q3.o (by omega) rfl rfl (Nat.le_of_ble_eq_true rfl) ⟨Nat.le_refl _, Nat.le_refl _⟩ (tX6_twiceWorth hM.q3 (by rw [aw_up_off _ _ (by decide)]; exact hn1) hn3 (by rw [aw_up_off _ _ (by decide)]; exact hm1) hm6 (by omega) ?_)
        refine aw_toL (cx_wth (I0 := I) (w := w) (fun a ha => by rw [aw_up_off _ _ (by omega)]; exact a1.1 a (Or.inl ha)) (by decide) (by rw [aw_up_off _ _ (by decide)]; exact t1) hm6 (cx_At_J (fun a ha => by rw [aw_up_off _ _ (by omega), aw_up_off _ _ (by omega)]) A1)) ?_
        refine aw_pc (pc2 := 45) rfl ?_
        refine aw_ldc2 (v := 2) dX7_solve_45 (aw_pl 520 (by decide +kernel) rfl) ?_
        refine aw_aload_n dX7_solve_48 rfl ?_
        refine aw_getR dX7_solve_49 flX7_27 hM.o hM.p3 ?_
        refine aw_getR dX7_solve_52 flX7_147 hM.q3.o hM.q3.p1 ?_
        refine aw_getJ dX7_solve_55 flX7_157 hM.q3.q1.o ?_
        refine aw_toL (y := cx_b I 1 n m w) (by rw [aw_up_off _ _ (by decide), aw_up_off _ _ (by decide)]; exact A1.1) ?_
        refine aw_lmul dX7_solve_58 ?_
        refine aw_pc (pc2 := 59) rfl ?_
        refine aw_cvV (As := [_, _]) (d' := d - 1) dX7_solve_59 lkX7_255 hM.q7.o (by omega) rfl rfl (Nat.le_of_ble_eq_true rfl) ⟨Nat.le_refl _, Nat.le_refl _⟩ (tX0_offer hM.q7 (by omega) ?_)
        refine aw_iload_n dX7_solve_62 rfl ?_
        exact aw_iret dX7_solve_63 rfl (hQ w _ _ p0 (by omega) g1 f1 (bk_of a1 b1)) (Nat.zero_le _) (Nat.zero_le _)
    · skip
      exact absurd (h4.trans rfl) (nI_m3 (by omega))

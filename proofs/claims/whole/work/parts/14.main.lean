/-! THE CLASS's own methods: what they ask of their arguments; the bowl, lines, sheets, an image (one object, number 0) -/
def sp_var (x : Int32) (n : Nat) : Int32 := if x < 0 then nI 0 else if x < nI n then nI 1 else nI 0
def sp_wi (v m : Int32) : Int32 := if v < -m then nI 0 else if m < v then nI 0 else nI 1
def sp_kind (x : Int32) : Int32 := if x < 0 then nI 0 else if nI 4 < x then nI 0 else nI 1
def sp_part (x : Int32) : Int32 := if x = 0 then nI 1 else if x = nI 1 then nI 1 else nI 0
def sp_all (m : Nat) : Int32 := nI 1 <<< (nI m &&& 31) - nI 1
def sp_set (x : Int32) (m : Nat) : Int32 := if x &&& (sp_all m ^^^ (-1)) = 0 then nI 1 else nI 0
def sp_of (x l : Int32) : Int32 := if x >>> (l &&& 31) &&& nI 1 = 0 then nI 0 else nI 1
def sp_bend (sq v : Int32) : Int32 := if sq = 0 then sp_wi v (nI 9) else if v < nI 1 then nI 0 else if nI 20 < v then nI 0 else nI 1
def sp_chg (w v : Int32) : Int32 := if w = nI 0 then sp_kind v else if w = nI 1 then sp_wi v (nI 99) else if w = nI 2 then sp_wi v (nI 9) else nI 0
def sp_ref (s i srt len : Int32) : Int32 := if sp_var s 4 = 0 then -2 else if srt = -1 then -11 else if i < 0 then -12 else if i < len then nI 0 else -12
theorem sp_var1 {x : Int32} {n : Nat} (h : ¬ sp_var x n = 0) : ∃ j, j < n ∧ x = nI j := by
  unfold sp_var at h
  by_cases h1 : x < 0
  · rw [if_pos h1] at h
    exact absurd (by decide) h
  · rw [if_neg h1] at h
    by_cases h2 : x < nI n
    · by_cases hn : n < 2 ^ 31
      · obtain ⟨j, hj, rfl⟩ := nI_of h1
        exact ⟨j, (nI_ltI hj hn).mp h2, rfl⟩
      · obtain ⟨j, hj, rfl⟩ := nI_of h1
        exact ⟨j, by omega, rfl⟩
    · rw [if_neg h2] at h
      exact absurd (by decide) h
theorem sp_var_in {j n : Nat} (h : j < n) (hn : n < 2 ^ 31) : sp_var (nI j) n = nI 1 := by
  unfold sp_var
  rw [if_neg (nI_pos (by omega)), if_pos ((nI_ltI (by omega) hn).mpr h)]
theorem sp_01 {c : Prop} [Decidable c] : (if c then nI 0 else nI 1) = 0 ∨ (if c then nI 0 else nI 1) = 1 := by
  by_cases h : c
  · rw [if_pos h]; exact Or.inl (by decide)
  · rw [if_neg h]; exact Or.inr (by decide)
theorem sp_wi01 (v m : Int32) : sp_wi v m = 0 ∨ sp_wi v m = 1 := by
  unfold sp_wi
  by_cases h : v < -m
  · rw [if_pos h]; exact Or.inl (by decide)
  · rw [if_neg h]; exact sp_01
theorem sp_kind01 (v : Int32) : sp_kind v = 0 ∨ sp_kind v = 1 := by
  unfold sp_kind
  by_cases h : v < 0
  · rw [if_pos h]; exact Or.inl (by decide)
  · rw [if_neg h]; exact sp_01
theorem sw_02 {x : Int32} (h1 : ¬ x = nI 0) (h2 : ¬ x = nI 1) (h3 : ¬ x = nI 2) : x.toInt < 0 ∨ 2 < x.toInt := by
  have e1 : ¬ x.toInt = 0 := fun e => h1 (Int32.toInt_inj.mp (by rw [e]; decide))
  have e2 : ¬ x.toInt = 1 := fun e => h2 (Int32.toInt_inj.mp (by rw [e]; decide))
  have e3 : ¬ x.toInt = 2 := fun e => h3 (Int32.toInt_inj.mp (by rw [e]; decide))
  omega
theorem sw_03 {x : Int32} (h1 : ¬ x = nI 0) (h2 : ¬ x = nI 1) (h3 : ¬ x = nI 2) (h4 : ¬ x = nI 3) : x.toInt < 0 ∨ 3 < x.toInt := by
  have e4 : ¬ x.toInt = 3 := fun e => h4 (Int32.toInt_inj.mp (by rw [e]; decide))
  rcases sw_02 h1 h2 h3 with h | h <;> omega
theorem sw_06 {x : Int32} (h1 : ¬ x = nI 0) (h2 : ¬ x = nI 1) (h3 : ¬ x = nI 2) (h4 : ¬ x = nI 3) (h5 : ¬ x = nI 4) (h6 : ¬ x = nI 5) (h7 : ¬ x = nI 6) : x.toInt < 0 ∨ 6 < x.toInt := by
  have e4 : ¬ x.toInt = 4 := fun e => h5 (Int32.toInt_inj.mp (by rw [e]; decide))
  have e5 : ¬ x.toInt = 5 := fun e => h6 (Int32.toInt_inj.mp (by rw [e]; decide))
  have e6 : ¬ x.toInt = 6 := fun e => h7 (Int32.toInt_inj.mp (by rw [e]; decide))
  rcases sw_03 h1 h2 h3 h4 with h | h <;> omega

theorem tX7_isVariable {G : aw_G} {d : Nat} {Ω : aw_O} {I : aw_MI} {J : aw_MJ} {Q : Int32 → aw_O → aw_MI → aw_MJ → Prop} {n : Nat} {x : Int32} (hM : aw_main Ω 0) (hn : I 1 0 = nI n) (hQ : Q (sp_var x n) Ω I J) : aw_Call G MX7_isVariable d 0 0 [.ref (aw_ad G 0), .int x] Ω I J (aw_QI Q) := by
  refine aw_enter (by decide +kernel) rfl (Nat.le_of_ble_eq_true rfl) ?_
  show AW G MX7_isVariable (aw_nx Ω) d 0 0 (aw_QI Q) Ω I J 0 0 [.ref (aw_ad G 0), .int x] 0 []
  refine aw_iload_n dX7_isVariable_0 rfl ?_
  refine aw_if_lt (t := 19) dX7_isVariable_1 (by decide) (fun h1 => ?_) (fun h1 => ?_)
  · skip
    refine aw_iconst (v := nI 0) dX7_isVariable_19 (by decide) ?_
    try simp only [lcmpE, lcmpL, lcmpG, lcmpLE, lcmpGT, nrm_le, nrm_le64, Classical.not_not] at h1
    exact aw_zret dX7_isVariable_20 rfl (by decide) (by first | (simp only [sp_var, if_pos h1] at hQ; exact hQ) | (unfold sp_var at hQ; rw [if_pos h1] at hQ; exact hQ) | contradiction) (Nat.zero_le _) (Nat.zero_le _)
  · skip
    refine aw_iload_n dX7_isVariable_4 rfl ?_
    refine aw_aload_n dX7_isVariable_5 rfl ?_
    refine aw_getR dX7_isVariable_6 flX7_10 hM.o hM.p0 ?_
    refine aw_getIv (v := nI n) dX7_isVariable_9 flX7_59 hM.q0.o (by first | exact hn | (simp (disch := omega) only [aw_cp_off, aw_up_off, aw_wr_off, aw_fill_off, aw_fr_off]; exact hn)) ?_
    refine aw_icmp_ge (t := 19) dX7_isVariable_12 (by decide) (fun h2 => ?_) (fun h2 => ?_)
    · skip
      refine aw_iconst (v := nI 0) dX7_isVariable_19 (by decide) ?_
      try simp only [lcmpE, lcmpL, lcmpG, lcmpLE, lcmpGT, nrm_le, nrm_le64, Classical.not_not] at h1
      try simp only [lcmpE, lcmpL, lcmpG, lcmpLE, lcmpGT, nrm_le, nrm_le64, Classical.not_not] at h2
      exact aw_zret dX7_isVariable_20 rfl (by decide) (by first | (simp only [sp_var, if_neg h1, if_neg h2] at hQ; exact hQ) | (unfold sp_var at hQ; rw [if_neg h1, if_neg h2] at hQ; exact hQ) | contradiction) (Nat.zero_le _) (Nat.zero_le _)
    · skip
      refine aw_iconst (v := nI 1) dX7_isVariable_15 (by decide) ?_
      refine aw_goto (t := 20) dX7_isVariable_16 (by decide) ?_
      try simp only [lcmpE, lcmpL, lcmpG, lcmpLE, lcmpGT, nrm_le, nrm_le64, Classical.not_not] at h1
      try simp only [lcmpE, lcmpL, lcmpG, lcmpLE, lcmpGT, nrm_le, nrm_le64, Classical.not_not] at h2
      exact aw_zret dX7_isVariable_20 rfl (by decide) (by first | (simp only [sp_var, if_neg h1, if_pos h2] at hQ; exact hQ) | (unfold sp_var at hQ; rw [if_neg h1, if_pos h2] at hQ; exact hQ) | contradiction) (Nat.zero_le _) (Nat.zero_le _)
theorem tX7_isLine {G : aw_G} {d : Nat} {Ω : aw_O} {I : aw_MI} {J : aw_MJ} {Q : Int32 → aw_O → aw_MI → aw_MJ → Prop} {m : Nat} {x : Int32} (hM : aw_main Ω 0) (hm : I 1 2 = nI m) (hQ : Q (sp_var x m) Ω I J) : aw_Call G MX7_isLine d 0 0 [.ref (aw_ad G 0), .int x] Ω I J (aw_QI Q) := by
  refine aw_enter (by decide +kernel) rfl (Nat.le_of_ble_eq_true rfl) ?_
  show AW G MX7_isLine (aw_nx Ω) d 0 0 (aw_QI Q) Ω I J 0 0 [.ref (aw_ad G 0), .int x] 0 []
  refine aw_iload_n dX7_isLine_0 rfl ?_
  refine aw_if_lt (t := 19) dX7_isLine_1 (by decide) (fun h1 => ?_) (fun h1 => ?_)
  · skip
    refine aw_iconst (v := nI 0) dX7_isLine_19 (by decide) ?_
    try simp only [lcmpE, lcmpL, lcmpG, lcmpLE, lcmpGT, nrm_le, nrm_le64, Classical.not_not] at h1
    exact aw_zret dX7_isLine_20 rfl (by decide) (by first | (simp only [sp_var, if_pos h1] at hQ; exact hQ) | (unfold sp_var at hQ; rw [if_pos h1] at hQ; exact hQ) | contradiction) (Nat.zero_le _) (Nat.zero_le _)
  · skip
    refine aw_iload_n dX7_isLine_4 rfl ?_
    refine aw_aload_n dX7_isLine_5 rfl ?_
    refine aw_getR dX7_isLine_6 flX7_10 hM.o hM.p0 ?_
    refine aw_getIv (v := nI m) dX7_isLine_9 flX7_93 hM.q0.o (by first | exact hm | (simp (disch := omega) only [aw_cp_off, aw_up_off, aw_wr_off, aw_fill_off, aw_fr_off]; exact hm)) ?_
    refine aw_icmp_ge (t := 19) dX7_isLine_12 (by decide) (fun h2 => ?_) (fun h2 => ?_)
    · skip
      refine aw_iconst (v := nI 0) dX7_isLine_19 (by decide) ?_
      try simp only [lcmpE, lcmpL, lcmpG, lcmpLE, lcmpGT, nrm_le, nrm_le64, Classical.not_not] at h1
      try simp only [lcmpE, lcmpL, lcmpG, lcmpLE, lcmpGT, nrm_le, nrm_le64, Classical.not_not] at h2
      exact aw_zret dX7_isLine_20 rfl (by decide) (by first | (simp only [sp_var, if_neg h1, if_neg h2] at hQ; exact hQ) | (unfold sp_var at hQ; rw [if_neg h1, if_neg h2] at hQ; exact hQ) | contradiction) (Nat.zero_le _) (Nat.zero_le _)
    · skip
      refine aw_iconst (v := nI 1) dX7_isLine_15 (by decide) ?_
      refine aw_goto (t := 20) dX7_isLine_16 (by decide) ?_
      try simp only [lcmpE, lcmpL, lcmpG, lcmpLE, lcmpGT, nrm_le, nrm_le64, Classical.not_not] at h1
      try simp only [lcmpE, lcmpL, lcmpG, lcmpLE, lcmpGT, nrm_le, nrm_le64, Classical.not_not] at h2
      exact aw_zret dX7_isLine_20 rfl (by decide) (by first | (simp only [sp_var, if_neg h1, if_pos h2] at hQ; exact hQ) | (unfold sp_var at hQ; rw [if_neg h1, if_pos h2] at hQ; exact hQ) | contradiction) (Nat.zero_le _) (Nat.zero_le _)
theorem tX7_isSet {G : aw_G} {d : Nat} {Ω : aw_O} {I : aw_MI} {J : aw_MJ} {Q : Int32 → aw_O → aw_MI → aw_MJ → Prop} {m : Nat} {x : Int32} (hM : aw_main Ω 0) (hm : I 1 2 = nI m) (hd : 1 ≤ d) (hQ : Q (sp_set x m) Ω I J) : aw_Call G MX7_isSet d 0 0 [.ref (aw_ad G 0), .int x] Ω I J (aw_QI Q) := by
  refine aw_enter (by decide +kernel) rfl (Nat.le_of_ble_eq_true rfl) ?_
  show AW G MX7_isSet (aw_nx Ω) d 0 0 (aw_QI Q) Ω I J 0 0 [.ref (aw_ad G 0), .int x] 0 []
  refine aw_iload_n dX7_isSet_0 rfl ?_
  refine aw_aload_n dX7_isSet_1 rfl ?_
  refine aw_getR dX7_isSet_2 flX7_10 hM.o hM.p0 ?_
  refine aw_cvI (As := []) (d' := d - 1) dX7_isSet_5 lkX7_202 hM.q0.o (by omega) rfl rfl (Nat.le_of_ble_eq_true rfl) ⟨Nat.le_refl _, Nat.le_refl _⟩ (tX1_allLines hM.q0 hm ?_)
  refine aw_iconst (v := -1) dX7_isSet_8 (by decide) ?_
  refine aw_pc (pc2 := 9) rfl ?_
  refine aw_ixor dX7_isSet_9 ?_
  refine aw_iand dX7_isSet_10 ?_
  refine aw_if_ne (t := 18) dX7_isSet_11 (by decide) (fun h1 => ?_) (fun h1 => ?_)
  · skip
    refine aw_iconst (v := nI 0) dX7_isSet_18 (by decide) ?_
    try simp only [lcmpE, lcmpL, lcmpG, lcmpLE, lcmpGT, nrm_le, nrm_le64, Classical.not_not] at h1
    exact aw_zret dX7_isSet_19 rfl (by decide) (by first | (simp only [sp_set, sp_all, if_neg h1] at hQ; exact hQ) | (unfold sp_set sp_all at hQ; rw [if_neg h1] at hQ; exact hQ) | contradiction) (Nat.zero_le _) (Nat.zero_le _)
  · skip
    refine aw_iconst (v := nI 1) dX7_isSet_14 (by decide) ?_
    refine aw_goto (t := 19) dX7_isSet_15 (by decide) ?_
    try simp only [lcmpE, lcmpL, lcmpG, lcmpLE, lcmpGT, nrm_le, nrm_le64, Classical.not_not] at h1
    exact aw_zret dX7_isSet_19 rfl (by decide) (by first | (simp only [sp_set, sp_all, if_pos h1] at hQ; exact hQ) | (unfold sp_set sp_all at hQ; rw [if_pos h1] at hQ; exact hQ) | contradiction) (Nat.zero_le _) (Nat.zero_le _)
theorem tX7_isOf {G : aw_G} {d : Nat} {Ω : aw_O} {I : aw_MI} {J : aw_MJ} {Q : Int32 → aw_O → aw_MI → aw_MJ → Prop} {x y : Int32} (hQ : Q (sp_of x y) Ω I J) : aw_Call G MX7_isOf d 0 0 [.int x, .int y] Ω I J (aw_QI Q) := by
  refine aw_enter (by decide +kernel) rfl (Nat.le_of_ble_eq_true rfl) ?_
  show AW G MX7_isOf (aw_nx Ω) d 0 0 (aw_QI Q) Ω I J 0 0 [.int x, .int y] 0 []
  refine aw_iload_n dX7_isOf_0 rfl ?_
  refine aw_iload_n dX7_isOf_1 rfl ?_
  refine aw_ishr dX7_isOf_2 ?_
  refine aw_iconst (v := nI 1) dX7_isOf_3 (by decide) ?_
  refine aw_iand dX7_isOf_4 ?_
  refine aw_pc (pc2 := 5) rfl ?_
  refine aw_if_eq (t := 12) dX7_isOf_5 (by decide) (fun h1 => ?_) (fun h1 => ?_)
  · skip
    refine aw_iconst (v := nI 0) dX7_isOf_12 (by decide) ?_
    try simp only [lcmpE, lcmpL, lcmpG, lcmpLE, lcmpGT, nrm_le, nrm_le64, Classical.not_not] at h1
    exact aw_zret dX7_isOf_13 rfl (by decide) (by first | (simp only [sp_of, if_pos h1] at hQ; exact hQ) | (unfold sp_of at hQ; rw [if_pos h1] at hQ; exact hQ) | contradiction) (Nat.zero_le _) (Nat.zero_le _)
  · skip
    refine aw_iconst (v := nI 1) dX7_isOf_8 (by decide) ?_
    refine aw_goto (t := 13) dX7_isOf_9 (by decide) ?_
    try simp only [lcmpE, lcmpL, lcmpG, lcmpLE, lcmpGT, nrm_le, nrm_le64, Classical.not_not] at h1
    exact aw_zret dX7_isOf_13 rfl (by decide) (by first | (simp only [sp_of, if_neg h1] at hQ; exact hQ) | (unfold sp_of at hQ; rw [if_neg h1] at hQ; exact hQ) | contradiction) (Nat.zero_le _) (Nat.zero_le _)
theorem tX7_isPart {G : aw_G} {d : Nat} {Ω : aw_O} {I : aw_MI} {J : aw_MJ} {Q : Int32 → aw_O → aw_MI → aw_MJ → Prop} {x : Int32} (hQ : Q (sp_part x) Ω I J) : aw_Call G MX7_isPart d 0 0 [.int x] Ω I J (aw_QI Q) := by
  refine aw_enter (by decide +kernel) rfl (Nat.le_of_ble_eq_true rfl) ?_
  show AW G MX7_isPart (aw_nx Ω) d 0 0 (aw_QI Q) Ω I J 0 0 [.int x] 0 []
  refine aw_iload_n dX7_isPart_0 rfl ?_
  refine aw_if_eq (t := 9) dX7_isPart_1 (by decide) (fun h1 => ?_) (fun h1 => ?_)
  · skip
    refine aw_iconst (v := nI 1) dX7_isPart_9 (by decide) ?_
    refine aw_goto (t := 14) dX7_isPart_10 (by decide) ?_
    try simp only [lcmpE, lcmpL, lcmpG, lcmpLE, lcmpGT, nrm_le, nrm_le64, Classical.not_not] at h1
    exact aw_zret dX7_isPart_14 rfl (by decide) (by first | (simp only [sp_part, if_pos h1] at hQ; exact hQ) | (unfold sp_part at hQ; rw [if_pos h1] at hQ; exact hQ) | contradiction) (Nat.zero_le _) (Nat.zero_le _)
  · skip
    refine aw_iload_n dX7_isPart_4 rfl ?_
    refine aw_iconst (v := nI 1) dX7_isPart_5 (by decide) ?_
    refine aw_icmp_ne (t := 13) dX7_isPart_6 (by decide) (fun h2 => ?_) (fun h2 => ?_)
    · skip
      refine aw_iconst (v := nI 0) dX7_isPart_13 (by decide) ?_
      try simp only [lcmpE, lcmpL, lcmpG, lcmpLE, lcmpGT, nrm_le, nrm_le64, Classical.not_not] at h1
      try simp only [lcmpE, lcmpL, lcmpG, lcmpLE, lcmpGT, nrm_le, nrm_le64, Classical.not_not] at h2
      exact aw_zret dX7_isPart_14 rfl (by decide) (by first | (simp only [sp_part, if_neg h1, if_neg h2] at hQ; exact hQ) | (unfold sp_part at hQ; rw [if_neg h1, if_neg h2] at hQ; exact hQ) | contradiction) (Nat.zero_le _) (Nat.zero_le _)
    · skip
      refine aw_iconst (v := nI 1) dX7_isPart_9 (by decide) ?_
      refine aw_goto (t := 14) dX7_isPart_10 (by decide) ?_
      try simp only [lcmpE, lcmpL, lcmpG, lcmpLE, lcmpGT, nrm_le, nrm_le64, Classical.not_not] at h1
      try simp only [lcmpE, lcmpL, lcmpG, lcmpLE, lcmpGT, nrm_le, nrm_le64, Classical.not_not] at h2
      exact aw_zret dX7_isPart_14 rfl (by decide) (by first | (simp only [sp_part, if_neg h1, if_pos h2] at hQ; exact hQ) | (unfold sp_part at hQ; rw [if_neg h1, if_pos h2] at hQ; exact hQ) | contradiction) (Nat.zero_le _) (Nat.zero_le _)
theorem tX7_isSheet {G : aw_G} {d : Nat} {Ω : aw_O} {I : aw_MI} {J : aw_MJ} {Q : Int32 → aw_O → aw_MI → aw_MJ → Prop} {x : Int32} (hQ : Q (sp_var x 4) Ω I J) : aw_Call G MX7_isSheet d 0 0 [.int x] Ω I J (aw_QI Q) := by
  refine aw_enter (by decide +kernel) rfl (Nat.le_of_ble_eq_true rfl) ?_
  show AW G MX7_isSheet (aw_nx Ω) d 0 0 (aw_QI Q) Ω I J 0 0 [.int x] 0 []
  refine aw_iload_n dX7_isSheet_0 rfl ?_
  refine aw_if_lt (t := 13) dX7_isSheet_1 (by decide) (fun h1 => ?_) (fun h1 => ?_)
  · skip
    refine aw_iconst (v := nI 0) dX7_isSheet_13 (by decide) ?_
    try simp only [lcmpE, lcmpL, lcmpG, lcmpLE, lcmpGT, nrm_le, nrm_le64, Classical.not_not] at h1
    exact aw_zret dX7_isSheet_14 rfl (by decide) (by first | (simp only [sp_var, if_pos h1] at hQ; exact hQ) | (unfold sp_var at hQ; rw [if_pos h1] at hQ; exact hQ) | contradiction) (Nat.zero_le _) (Nat.zero_le _)
  · skip
    refine aw_iload_n dX7_isSheet_4 rfl ?_
    refine aw_iconst (v := nI 4) dX7_isSheet_5 (by decide) ?_
    refine aw_icmp_ge (t := 13) dX7_isSheet_6 (by decide) (fun h2 => ?_) (fun h2 => ?_)
    · skip
      refine aw_iconst (v := nI 0) dX7_isSheet_13 (by decide) ?_
      try simp only [lcmpE, lcmpL, lcmpG, lcmpLE, lcmpGT, nrm_le, nrm_le64, Classical.not_not] at h1
      try simp only [lcmpE, lcmpL, lcmpG, lcmpLE, lcmpGT, nrm_le, nrm_le64, Classical.not_not] at h2
      exact aw_zret dX7_isSheet_14 rfl (by decide) (by first | (simp only [sp_var, if_neg h1, if_neg h2] at hQ; exact hQ) | (unfold sp_var at hQ; rw [if_neg h1, if_neg h2] at hQ; exact hQ) | contradiction) (Nat.zero_le _) (Nat.zero_le _)
    · skip
      refine aw_iconst (v := nI 1) dX7_isSheet_9 (by decide) ?_
      refine aw_goto (t := 14) dX7_isSheet_10 (by decide) ?_
      try simp only [lcmpE, lcmpL, lcmpG, lcmpLE, lcmpGT, nrm_le, nrm_le64, Classical.not_not] at h1
      try simp only [lcmpE, lcmpL, lcmpG, lcmpLE, lcmpGT, nrm_le, nrm_le64, Classical.not_not] at h2
      exact aw_zret dX7_isSheet_14 rfl (by decide) (by first | (simp only [sp_var, if_neg h1, if_pos h2] at hQ; exact hQ) | (unfold sp_var at hQ; rw [if_neg h1, if_pos h2] at hQ; exact hQ) | contradiction) (Nat.zero_le _) (Nat.zero_le _)
theorem tX7_isKind {G : aw_G} {d : Nat} {Ω : aw_O} {I : aw_MI} {J : aw_MJ} {Q : Int32 → aw_O → aw_MI → aw_MJ → Prop} {x : Int32} (hQ : Q (sp_kind x) Ω I J) : aw_Call G MX7_isKind d 0 0 [.int x] Ω I J (aw_QI Q) := by
  refine aw_enter (by decide +kernel) rfl (Nat.le_of_ble_eq_true rfl) ?_
  show AW G MX7_isKind (aw_nx Ω) d 0 0 (aw_QI Q) Ω I J 0 0 [.int x] 0 []
  refine aw_iload_n dX7_isKind_0 rfl ?_
  refine aw_if_lt (t := 13) dX7_isKind_1 (by decide) (fun h1 => ?_) (fun h1 => ?_)
  · skip
    refine aw_iconst (v := nI 0) dX7_isKind_13 (by decide) ?_
    try simp only [lcmpE, lcmpL, lcmpG, lcmpLE, lcmpGT, nrm_le, nrm_le64, Classical.not_not] at h1
    exact aw_zret dX7_isKind_14 rfl (by decide) (by first | (simp only [sp_kind, if_pos h1] at hQ; exact hQ) | (unfold sp_kind at hQ; rw [if_pos h1] at hQ; exact hQ) | contradiction) (Nat.zero_le _) (Nat.zero_le _)
  · skip
    refine aw_iload_n dX7_isKind_4 rfl ?_
    refine aw_iconst (v := nI 4) dX7_isKind_5 (by decide) ?_
    refine aw_icmp_gt (t := 13) dX7_isKind_6 (by decide) (fun h2 => ?_) (fun h2 => ?_)
    · skip
      refine aw_iconst (v := nI 0) dX7_isKind_13 (by decide) ?_
      try simp only [lcmpE, lcmpL, lcmpG, lcmpLE, lcmpGT, nrm_le, nrm_le64, Classical.not_not] at h1
      try simp only [lcmpE, lcmpL, lcmpG, lcmpLE, lcmpGT, nrm_le, nrm_le64, Classical.not_not] at h2
      exact aw_zret dX7_isKind_14 rfl (by decide) (by first | (simp only [sp_kind, if_neg h1, if_pos h2] at hQ; exact hQ) | (unfold sp_kind at hQ; rw [if_neg h1, if_pos h2] at hQ; exact hQ) | contradiction) (Nat.zero_le _) (Nat.zero_le _)
    · skip
      refine aw_iconst (v := nI 1) dX7_isKind_9 (by decide) ?_
      refine aw_goto (t := 14) dX7_isKind_10 (by decide) ?_
      try simp only [lcmpE, lcmpL, lcmpG, lcmpLE, lcmpGT, nrm_le, nrm_le64, Classical.not_not] at h1
      try simp only [lcmpE, lcmpL, lcmpG, lcmpLE, lcmpGT, nrm_le, nrm_le64, Classical.not_not] at h2
      exact aw_zret dX7_isKind_14 rfl (by decide) (by first | (simp only [sp_kind, if_neg h1, if_neg h2] at hQ; exact hQ) | (unfold sp_kind at hQ; rw [if_neg h1, if_neg h2] at hQ; exact hQ) | contradiction) (Nat.zero_le _) (Nat.zero_le _)
theorem tX7_isWithin {G : aw_G} {d : Nat} {Ω : aw_O} {I : aw_MI} {J : aw_MJ} {Q : Int32 → aw_O → aw_MI → aw_MJ → Prop} {x y : Int32} (hQ : Q (sp_wi x y) Ω I J) : aw_Call G MX7_isWithin d 0 0 [.int x, .int y] Ω I J (aw_QI Q) := by
  refine aw_enter (by decide +kernel) rfl (Nat.le_of_ble_eq_true rfl) ?_
  show AW G MX7_isWithin (aw_nx Ω) d 0 0 (aw_QI Q) Ω I J 0 0 [.int x, .int y] 0 []
  refine aw_iload_n dX7_isWithin_0 rfl ?_
  refine aw_iload_n dX7_isWithin_1 rfl ?_
  refine aw_ineg dX7_isWithin_2 ?_
  refine aw_icmp_lt (t := 15) dX7_isWithin_3 (by decide) (fun h1 => ?_) (fun h1 => ?_)
  · skip
    refine aw_iconst (v := nI 0) dX7_isWithin_15 (by decide) ?_
    try simp only [lcmpE, lcmpL, lcmpG, lcmpLE, lcmpGT, nrm_le, nrm_le64, Classical.not_not] at h1
    exact aw_zret dX7_isWithin_16 rfl (by decide) (by first | (simp only [sp_wi, if_pos h1] at hQ; exact hQ) | (unfold sp_wi at hQ; rw [if_pos h1] at hQ; exact hQ) | contradiction) (Nat.zero_le _) (Nat.zero_le _)
  · skip
    refine aw_iload_n dX7_isWithin_6 rfl ?_
    refine aw_iload_n dX7_isWithin_7 rfl ?_
    refine aw_icmp_gt (t := 15) dX7_isWithin_8 (by decide) (fun h2 => ?_) (fun h2 => ?_)
    · skip
      refine aw_iconst (v := nI 0) dX7_isWithin_15 (by decide) ?_
      try simp only [lcmpE, lcmpL, lcmpG, lcmpLE, lcmpGT, nrm_le, nrm_le64, Classical.not_not] at h1
      try simp only [lcmpE, lcmpL, lcmpG, lcmpLE, lcmpGT, nrm_le, nrm_le64, Classical.not_not] at h2
      exact aw_zret dX7_isWithin_16 rfl (by decide) (by first | (simp only [sp_wi, if_neg h1, if_pos h2] at hQ; exact hQ) | (unfold sp_wi at hQ; rw [if_neg h1, if_pos h2] at hQ; exact hQ) | contradiction) (Nat.zero_le _) (Nat.zero_le _)
    · skip
      refine aw_iconst (v := nI 1) dX7_isWithin_11 (by decide) ?_
      refine aw_goto (t := 16) dX7_isWithin_12 (by decide) ?_
      try simp only [lcmpE, lcmpL, lcmpG, lcmpLE, lcmpGT, nrm_le, nrm_le64, Classical.not_not] at h1
      try simp only [lcmpE, lcmpL, lcmpG, lcmpLE, lcmpGT, nrm_le, nrm_le64, Classical.not_not] at h2
      exact aw_zret dX7_isWithin_16 rfl (by decide) (by first | (simp only [sp_wi, if_neg h1, if_neg h2] at hQ; exact hQ) | (unfold sp_wi at hQ; rw [if_neg h1, if_neg h2] at hQ; exact hQ) | contradiction) (Nat.zero_le _) (Nat.zero_le _)
theorem tX7_isBend {G : aw_G} {d : Nat} {Ω : aw_O} {I : aw_MI} {J : aw_MJ} {Q : Int32 → aw_O → aw_MI → aw_MJ → Prop} {x y : Int32} (hd : 1 ≤ d) (hQ : Q (sp_bend x y) Ω I J) : aw_Call G MX7_isBend d 0 0 [.int x, .int y] Ω I J (aw_QI Q) := by
  refine aw_enter (by decide +kernel) rfl (Nat.le_of_ble_eq_true rfl) ?_
  show AW G MX7_isBend (aw_nx Ω) d 0 0 (aw_QI Q) Ω I J 0 0 [.int x, .int y] 0 []
  refine aw_iload_n dX7_isBend_0 rfl ?_
  refine aw_if_eq (t := 23) dX7_isBend_1 (by decide) (fun h1 => ?_) (fun h1 => ?_)
  · skip
    refine aw_iload_n dX7_isBend_23 rfl ?_
    refine aw_bipush (v := nI 9) dX7_isBend_24 (by decide) ?_
    refine aw_csI (As := [_, _]) (d' := d - 1) dX7_isBend_26 lkX7_79 (by omega) rfl rfl (Nat.le_of_ble_eq_true rfl) ⟨Nat.le_refl _, Nat.le_refl _⟩ (tX7_isWithin ?_)
    try simp only [lcmpE, lcmpL, lcmpG, lcmpLE, lcmpGT, nrm_le, nrm_le64, Classical.not_not] at h1
    exact aw_zret dX7_isBend_29 rfl (sp_wi01 _ _) (by simp only [sp_bend, if_pos h1] at hQ; exact hQ) (Nat.zero_le _) (Nat.zero_le _)
  · skip
    refine aw_iload_n dX7_isBend_4 rfl ?_
    refine aw_iconst (v := nI 1) dX7_isBend_5 (by decide) ?_
    refine aw_icmp_lt (t := 19) dX7_isBend_6 (by decide) (fun h2 => ?_) (fun h2 => ?_)
    · skip
      refine aw_iconst (v := nI 0) dX7_isBend_19 (by decide) ?_
      refine aw_goto (t := 29) dX7_isBend_20 (by decide) ?_
      try simp only [lcmpE, lcmpL, lcmpG, lcmpLE, lcmpGT, nrm_le, nrm_le64, Classical.not_not] at h1
      try simp only [lcmpE, lcmpL, lcmpG, lcmpLE, lcmpGT, nrm_le, nrm_le64, Classical.not_not] at h2
      exact aw_zret dX7_isBend_29 rfl (by decide) (by first | (simp only [sp_bend, if_neg h1, if_pos h2] at hQ; exact hQ) | (unfold sp_bend at hQ; rw [if_neg h1, if_pos h2] at hQ; exact hQ) | contradiction) (Nat.zero_le _) (Nat.zero_le _)
    · skip
      refine aw_iload_n dX7_isBend_9 rfl ?_
      refine aw_bipush (v := nI 20) dX7_isBend_10 (by decide) ?_
      refine aw_icmp_gt (t := 19) dX7_isBend_12 (by decide) (fun h3 => ?_) (fun h3 => ?_)
      · skip
        refine aw_iconst (v := nI 0) dX7_isBend_19 (by decide) ?_
        refine aw_goto (t := 29) dX7_isBend_20 (by decide) ?_
        try simp only [lcmpE, lcmpL, lcmpG, lcmpLE, lcmpGT, nrm_le, nrm_le64, Classical.not_not] at h1
        try simp only [lcmpE, lcmpL, lcmpG, lcmpLE, lcmpGT, nrm_le, nrm_le64, Classical.not_not] at h2
        try simp only [lcmpE, lcmpL, lcmpG, lcmpLE, lcmpGT, nrm_le, nrm_le64, Classical.not_not] at h3
        exact aw_zret dX7_isBend_29 rfl (by decide) (by first | (simp only [sp_bend, if_neg h1, if_neg h2, if_pos h3] at hQ; exact hQ) | (unfold sp_bend at hQ; rw [if_neg h1, if_neg h2, if_pos h3] at hQ; exact hQ) | contradiction) (Nat.zero_le _) (Nat.zero_le _)
      · skip
        refine aw_iconst (v := nI 1) dX7_isBend_15 (by decide) ?_
        refine aw_goto (t := 29) dX7_isBend_16 (by decide) ?_
        try simp only [lcmpE, lcmpL, lcmpG, lcmpLE, lcmpGT, nrm_le, nrm_le64, Classical.not_not] at h1
        try simp only [lcmpE, lcmpL, lcmpG, lcmpLE, lcmpGT, nrm_le, nrm_le64, Classical.not_not] at h2
        try simp only [lcmpE, lcmpL, lcmpG, lcmpLE, lcmpGT, nrm_le, nrm_le64, Classical.not_not] at h3
        exact aw_zret dX7_isBend_29 rfl (by decide) (by first | (simp only [sp_bend, if_neg h1, if_neg h2, if_neg h3] at hQ; exact hQ) | (unfold sp_bend at hQ; rw [if_neg h1, if_neg h2, if_neg h3] at hQ; exact hQ) | contradiction) (Nat.zero_le _) (Nat.zero_le _)
theorem tX7_isChange {G : aw_G} {d : Nat} {Ω : aw_O} {I : aw_MI} {J : aw_MJ} {Q : Int32 → aw_O → aw_MI → aw_MJ → Prop} {x y : Int32} (hd : 1 ≤ d) (hQ : Q (sp_chg x y) Ω I J) : aw_Call G MX7_isChange d 0 0 [.int x, .int y] Ω I J (aw_QI Q) := by
  refine aw_enter (by decide +kernel) rfl (Nat.le_of_ble_eq_true rfl) ?_
  show AW G MX7_isChange (aw_nx Ω) d 0 0 (aw_QI Q) Ω I J 0 0 [.int x, .int y] 0 []
  refine aw_iload_n dX7_isChange_0 rfl ?_
  by_cases hk0 : x = nI 0
  · refine aw_toI hk0 (aw_tabIn (off := 27) (t := 28) dX7_isChange_1 (by decide) (by decide) (by decide) (by decide) ?_)
    refine aw_iload_n dX7_isChange_28 rfl ?_
    refine aw_csI (As := [_]) (d' := d - 1) dX7_isChange_29 lkX7_90 (by omega) rfl rfl (Nat.le_of_ble_eq_true rfl) ⟨Nat.le_refl _, Nat.le_refl _⟩ (tX7_isKind ?_)
    exact aw_zret dX7_isChange_32 rfl (sp_kind01 _) (by simp only [sp_chg, if_pos hk0] at hQ; exact hQ) (Nat.zero_le _) (Nat.zero_le _)
  by_cases hk1 : x = nI 1
  · refine aw_toI hk1 (aw_tabIn (off := 32) (t := 33) dX7_isChange_1 (by decide) (by decide) (by decide) (by decide) ?_)
    refine aw_iload_n dX7_isChange_33 rfl ?_
    refine aw_bipush (v := nI 99) dX7_isChange_34 (by decide) ?_
    refine aw_csI (As := [_, _]) (d' := d - 1) dX7_isChange_36 lkX7_79 (by omega) rfl rfl (Nat.le_of_ble_eq_true rfl) ⟨Nat.le_refl _, Nat.le_refl _⟩ (tX7_isWithin ?_)
    exact aw_zret dX7_isChange_39 rfl (sp_wi01 _ _) (by simp only [sp_chg, if_neg hk0, if_pos hk1] at hQ; exact hQ) (Nat.zero_le _) (Nat.zero_le _)
  by_cases hk2 : x = nI 2
  · refine aw_toI hk2 (aw_tabIn (off := 39) (t := 40) dX7_isChange_1 (by decide) (by decide) (by decide) (by decide) ?_)
    refine aw_iload_n dX7_isChange_40 rfl ?_
    refine aw_bipush (v := nI 9) dX7_isChange_41 (by decide) ?_
    refine aw_csI (As := [_, _]) (d' := d - 1) dX7_isChange_43 lkX7_79 (by omega) rfl rfl (Nat.le_of_ble_eq_true rfl) ⟨Nat.le_refl _, Nat.le_refl _⟩ (tX7_isWithin ?_)
    exact aw_zret dX7_isChange_46 rfl (sp_wi01 _ _) (by simp only [sp_chg, if_neg hk0, if_neg hk1, if_pos hk2] at hQ; exact hQ) (Nat.zero_le _) (Nat.zero_le _)
  refine aw_tabOut (t := 47) dX7_isChange_1 (sw_02 hk0 hk1 hk2) (by decide) ?_
  refine aw_iconst (v := nI 0) dX7_isChange_47 (by decide) ?_
  exact aw_zret dX7_isChange_48 rfl (by decide) (by simp only [sp_chg, if_neg hk0, if_neg hk1, if_neg hk2] at hQ; exact hQ) (Nat.zero_le _) (Nat.zero_le _)

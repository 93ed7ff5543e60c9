/-! THE CERTIFICATE; reach -/
theorem aw_wr_s0 {α : Type} (I : Nat → Nat → α) (a n : Nat) (f : Nat → α) : aw_up (aw_wr I a 0 n f) a n (f n) = aw_wr I a 0 (n + 1) f := by
  have q := aw_wr_s I a 0 n f
  rw [Nat.zero_add] at q
  exact q
def sp_g1 (b : Int64) (x : Nat → Int64) : Nat → Int64
  | 0 => b
  | i + 1 => sp_sh (sp_g1 b x i) (x i)
def sp_shb (b : Int64) (x y : Nat → Int64) (n m : Nat) : Int64 := if sp_g1 (sp_g1 b x n) y m = 0 then 1 else sp_g1 (sp_g1 b x n) y m
def sp_s1 (a : Int64) (q : Nat → Int32) (x : Nat → Int64) : Nat → Int64
  | 0 => a
  | j + 1 => sp_s1 a q x j + (q j).toInt64 * x j
def sp_bal (I : aw_MI) (J : aw_MJ) (c p n m i : Nat) : Int64 := sp_s1 (sp_s1 ((I (c + 2) i).toInt64 * J p 2) (fun j => I (c + 1) (i * 3 + j)) (J (p + 1)) n) (fun l => sp_rw I c l i) (J (p + 2)) m
/-- whether f holds from k on, z times -/
def sp_al (f : Nat → Bool) : Nat → Nat → Int32
  | _, 0 => nI 1
  | k, z + 1 => if f k = true then sp_al f (k + 1) z else nI 0
theorem sp_al01 (f : Nat → Bool) : ∀ (z k : Nat), sp_al f k z = nI 0 ∨ sp_al f k z = nI 1
  | 0, _ => Or.inr rfl
  | z + 1, k => by
    unfold sp_al
    by_cases h : f k = true
    · rw [if_pos h]; exact sp_al01 f z (k + 1)
    · rw [if_neg h]; exact Or.inl rfl
def sq_bal (I : aw_MI) (J : aw_MJ) (c p n m i : Nat) : Bool := decide (sp_bal I J c p n m i = 0)
def sq_wr (I : aw_MI) (J : aw_MJ) (c p l : Nat) : Bool := decide (J (p + 2) l < 0 → ¬ sp_on (I (c + 3) l) = 0)
def sq_hd (I : aw_MI) (J : aw_MJ) (c p n l : Nat) : Bool := decide (¬ sp_held (I (c + 3) l) (sp_slk I J c p n (I c 1) l) = 0)
def sq_ti (I : aw_MI) (J : aw_MJ) (c p n l : Nat) : Bool := decide (¬ J (p + 2) l = 0 → sp_slk I J c p n (I c 1) l = 0)
def sp_fw (I : aw_MI) (J : aw_MJ) (c p n m : Nat) : Int32 := if J p 2 < 1 then nI 1 else if sp_al (sq_bal I J c p n m) 0 n = 0 then nI 2 else if sp_al (sq_wr I J c p) 0 m = 0 then nI 3 else if sp_al (sq_hd I J c p n) 0 m = 0 then nI 4 else if sp_al (sq_ti I J c p n) 0 m = 0 then nI 5 else nI 0

theorem tX2_length {G : aw_G} {d : Nat} {Ω : aw_O} {I : aw_MI} {J : aw_MJ} {Q : Int32 → aw_O → aw_MI → aw_MJ → Prop} {s c n m : Nat} (hC : aw_cert Ω s c) (hn : I c 0 = nI n) (hn3 : n ≤ 3) (hm : I c 2 = nI m) (hm6 : m ≤ 6) (hQ : Q (nI (n + m + 1)) Ω I J) : aw_Call G MX2_length d 0 0 [.ref (aw_ad G s)] Ω I J (aw_QI Q) := by
  refine aw_enter (by decide +kernel) rfl (Nat.le_of_ble_eq_true rfl) ?_
  show AW G MX2_length (aw_nx Ω) d 0 0 (aw_QI Q) Ω I J 0 0 [.ref (aw_ad G s)] 0 []
  refine aw_aload_n dX2_length_0 rfl ?_
  refine aw_getR dX2_length_1 flX2_18 hC.o hC.p0 ?_
  refine aw_getIv (v := nI n) dX2_length_4 flX2_22 hC.q0.o hn ?_
  refine aw_aload_n dX2_length_7 rfl ?_
  refine aw_getR dX2_length_8 flX2_18 hC.o hC.p0 ?_
  refine aw_pc (pc2 := 11) rfl ?_
  refine aw_getIv (v := nI m) dX2_length_11 flX2_28 hC.q0.o hm ?_
  refine aw_iaddN dX2_length_14 ?_
  refine aw_iconst (v := nI 1) dX2_length_15 (by decide) ?_
  refine aw_iaddN dX2_length_16 ?_
  exact aw_iret dX2_length_17 rfl (hQ) (Nat.zero_le _) (Nat.zero_le _)
theorem lX2_sharedBy2 {G : aw_G} {d : Nat} {Ω : aw_O} {I : aw_MI} {J : aw_MJ} {Q : Int64 → aw_O → aw_MI → aw_MJ → Prop} {s c n m p : Nat} (hC : aw_cert Ω s c) (hn : I c 0 = nI n) (hn3 : n ≤ 3) (hm : I c 2 = nI m) (hm6 : m ≤ 6) (hP : aw_point Ω p) (hd : 2 ≤ d) (hQ : Q (sp_shb (J p 2) (J (p + 1)) (J (p + 2)) n m) Ω I J) : ∀ (z i : Nat), i ≤ m → m - i < z → AW G MX2_sharedBy (aw_nx Ω) d 0 0 (aw_QL Q) Ω I J 0 0 [.ref (aw_ad G s), .ref (aw_ad G p), .long (sp_g1 (sp_g1 (J p 2) (J (p + 1)) n) (J (p + 2)) i), .null, .int (nI i)] 41 [] := by
  intro z
  induction z with
  | zero =>
    intro i h0 hz
    exact absurd hz (by omega)
  | succ z ih =>
    intro i h0 hz
    refine aw_iload dX2_sharedBy_41 rfl ?_
    refine aw_aload_n dX2_sharedBy_43 rfl ?_
    refine aw_getR dX2_sharedBy_44 flX2_18 hC.o hC.p0 ?_
    refine aw_getIv (v := nI m) dX2_sharedBy_47 flX2_28 hC.q0.o hm ?_
    refine aw_geN (t := 71) dX2_sharedBy_50 (by decide) (by omega) (by omega) (fun h1 => ?_) (fun h1 => ?_)
    · skip
      refine aw_lload_n dX2_sharedBy_71 rfl ?_
      refine aw_lconst (v := 0) dX2_sharedBy_72 (by decide) ?_
      refine aw_lcmp dX2_sharedBy_73 ?_
      refine aw_if_ne (t := 81) dX2_sharedBy_74 (by decide) (fun h2 => ?_) (fun h2 => ?_)
      · skip
        refine aw_lload_n dX2_sharedBy_81 rfl ?_
        have e1 : i = m := by omega
        subst e1
        try simp only [lcmpE, lcmpL, lcmpG, lcmpLE, lcmpGT, nrm_le, nrm_le64, Classical.not_not] at h2
        exact aw_lret dX2_sharedBy_82 rfl (by first | (simp only [sp_shb, if_neg h2] at hQ; exact hQ) | (unfold sp_shb at hQ; rw [if_neg h2] at hQ; exact hQ) | contradiction) (Nat.zero_le _) (Nat.zero_le _)
      · skip
        refine aw_lconst (v := 1) dX2_sharedBy_77 (by decide) ?_
        refine aw_goto (t := 82) dX2_sharedBy_78 (by decide) ?_
        have e1 : i = m := by omega
        subst e1
        try simp only [lcmpE, lcmpL, lcmpG, lcmpLE, lcmpGT, nrm_le, nrm_le64, Classical.not_not] at h2
        exact aw_lret dX2_sharedBy_82 rfl (by first | (simp only [sp_shb, if_pos h2] at hQ; exact hQ) | (unfold sp_shb at hQ; rw [if_pos h2] at hQ; exact hQ) | contradiction) (Nat.zero_le _) (Nat.zero_le _)
    · skip
      refine aw_lload_n dX2_sharedBy_53 rfl ?_
      refine aw_aload_n dX2_sharedBy_54 rfl ?_
      refine aw_getR dX2_sharedBy_55 flX2_53 hP.o hP.p1 ?_
      refine aw_iload dX2_sharedBy_58 rfl ?_
      refine aw_lald dX2_sharedBy_60 hP.s1 rfl (by omega) ?_
      refine aw_pc (pc2 := 61) rfl ?_
      refine aw_csL (As := [_, _]) (d' := d - 1) dX2_sharedBy_61 lkX2_60 (by omega) rfl rfl (Nat.le_of_ble_eq_true rfl) ⟨Nat.le_refl _, Nat.le_refl _⟩ (tX3_shared (by omega) ?_)
      refine aw_lstore_n dX2_sharedBy_64 (by decide) ?_
      refine aw_lv (lv2 := [.ref _, .ref _, .long _, .null, .int _]) rfl ?_
      refine aw_iincN dX2_sharedBy_65 rfl (by decide) ?_
      refine aw_lv (lv2 := [.ref _, .ref _, .long _, .null, .int _]) rfl ?_
      refine aw_goto (t := 41) dX2_sharedBy_68 (by decide) ?_
      exact ih (i + 1) (by omega) (by omega)
theorem lX2_sharedBy1 {G : aw_G} {d : Nat} {Ω : aw_O} {I : aw_MI} {J : aw_MJ} {Q : Int64 → aw_O → aw_MI → aw_MJ → Prop} {s c n m p : Nat} (hC : aw_cert Ω s c) (hn : I c 0 = nI n) (hn3 : n ≤ 3) (hm : I c 2 = nI m) (hm6 : m ≤ 6) (hP : aw_point Ω p) (hd : 2 ≤ d) (hQ : Q (sp_shb (J p 2) (J (p + 1)) (J (p + 2)) n m) Ω I J) : ∀ (z i : Nat), i ≤ n → n - i < z → AW G MX2_sharedBy (aw_nx Ω) d 0 0 (aw_QL Q) Ω I J 0 0 [.ref (aw_ad G s), .ref (aw_ad G p), .long (sp_g1 (J p 2) (J (p + 1)) i), .null, .int (nI i)] 8 [] := by
  intro z
  induction z with
  | zero =>
    intro i h0 hz
    exact absurd hz (by omega)
  | succ z ih =>
    intro i h0 hz
    refine aw_iload dX2_sharedBy_8 rfl ?_
    refine aw_aload_n dX2_sharedBy_10 rfl ?_
    refine aw_getR dX2_sharedBy_11 flX2_18 hC.o hC.p0 ?_
    refine aw_getIv (v := nI n) dX2_sharedBy_14 flX2_22 hC.q0.o hn ?_
    refine aw_geN (t := 38) dX2_sharedBy_17 (by decide) (by omega) (by omega) (fun h1 => ?_) (fun h1 => ?_)
    · skip
      refine aw_iconst (v := nI 0) dX2_sharedBy_38 (by decide) ?_
      refine aw_istore dX2_sharedBy_39 (by decide) ?_
      refine aw_lv (lv2 := [.ref _, .ref _, .long _, .null, .int _]) rfl ?_
      have e1 : i = n := by omega
      subst e1
      exact lX2_sharedBy2 hC hn hn3 hm hm6 hP hd hQ (m + 1) 0 (by omega) (by omega)
    · skip
      refine aw_lload_n dX2_sharedBy_20 rfl ?_
      refine aw_aload_n dX2_sharedBy_21 rfl ?_
      refine aw_getR dX2_sharedBy_22 flX2_45 hP.o hP.p0 ?_
      refine aw_iload dX2_sharedBy_25 rfl ?_
      refine aw_lald dX2_sharedBy_27 hP.s0 rfl (by omega) ?_
      refine aw_pc (pc2 := 28) rfl ?_
      refine aw_csL (As := [_, _]) (d' := d - 1) dX2_sharedBy_28 lkX2_60 (by omega) rfl rfl (Nat.le_of_ble_eq_true rfl) ⟨Nat.le_refl _, Nat.le_refl _⟩ (tX3_shared (by omega) ?_)
      refine aw_lstore_n dX2_sharedBy_31 (by decide) ?_
      refine aw_lv (lv2 := [.ref _, .ref _, .long _, .null, .int _]) rfl ?_
      refine aw_iincN dX2_sharedBy_32 rfl (by decide) ?_
      refine aw_lv (lv2 := [.ref _, .ref _, .long _, .null, .int _]) rfl ?_
      refine aw_goto (t := 8) dX2_sharedBy_35 (by decide) ?_
      exact ih (i + 1) (by omega) (by omega)
theorem tX2_sharedBy {G : aw_G} {d : Nat} {Ω : aw_O} {I : aw_MI} {J : aw_MJ} {Q : Int64 → aw_O → aw_MI → aw_MJ → Prop} {s c n m p : Nat} (hC : aw_cert Ω s c) (hn : I c 0 = nI n) (hn3 : n ≤ 3) (hm : I c 2 = nI m) (hm6 : m ≤ 6) (hP : aw_point Ω p) (hd : 2 ≤ d) (hQ : Q (sp_shb (J p 2) (J (p + 1)) (J (p + 2)) n m) Ω I J) : aw_Call G MX2_sharedBy d 0 0 [.ref (aw_ad G s), .ref (aw_ad G p)] Ω I J (aw_QL Q) := by
  refine aw_enter (by decide +kernel) rfl (Nat.le_of_ble_eq_true rfl) ?_
  show AW G MX2_sharedBy (aw_nx Ω) d 0 0 (aw_QL Q) Ω I J 0 0 [.ref (aw_ad G s), .ref (aw_ad G p), .null, .null, .null] 0 []
  refine aw_aload_n dX2_sharedBy_0 rfl ?_
  refine aw_getJ dX2_sharedBy_1 flX2_56 hP.o ?_
  refine aw_lstore_n dX2_sharedBy_4 (by decide) ?_
  refine aw_lv (lv2 := [.ref _, .ref _, .long _, .null, .null]) rfl ?_
  refine aw_iconst (v := nI 0) dX2_sharedBy_5 (by decide) ?_
  refine aw_istore dX2_sharedBy_6 (by decide) ?_
  refine aw_lv (lv2 := [.ref _, .ref _, .long _, .null, .int _]) rfl ?_
  exact lX2_sharedBy1 hC hn hn3 hm hm6 hP hd hQ (n + 1) 0 (by omega) (by omega)
theorem tX2_slackOf {G : aw_G} {d : Nat} {Ω : aw_O} {I : aw_MI} {J : aw_MJ} {Q : Int64 → aw_O → aw_MI → aw_MJ → Prop} {s c n l : Nat} (hC : aw_cert Ω s c) (hn : I c 0 = nI n) (hn3 : n ≤ 3) (hl : l < 6) (hd : 2 ≤ d) (hQ : Q (sp_slk I J c (s + 1) n (I c 1) l) Ω I J) : aw_Call G MX2_slackOf d 0 0 [.ref (aw_ad G s), .int (nI l)] Ω I J (aw_QL Q) := by
  refine aw_enter (by decide +kernel) rfl (Nat.le_of_ble_eq_true rfl) ?_
  show AW G MX2_slackOf (aw_nx Ω) d 0 0 (aw_QL Q) Ω I J 0 0 [.ref (aw_ad G s), .int (nI l)] 0 []
  refine aw_aload_n dX2_slackOf_0 rfl ?_
  refine aw_getR dX2_slackOf_1 flX2_18 hC.o hC.p0 ?_
  refine aw_aload_n dX2_slackOf_4 rfl ?_
  refine aw_getR dX2_slackOf_5 flX2_18 hC.o hC.p0 ?_
  refine aw_iload_n dX2_slackOf_8 rfl ?_
  refine aw_pc (pc2 := 9) rfl ?_
  refine aw_aload_n dX2_slackOf_9 rfl ?_
  refine aw_getR dX2_slackOf_10 flX2_18 hC.o hC.p0 ?_
  refine aw_getI dX2_slackOf_13 flX2_83 hC.q0.o ?_
  refine aw_cvI (As := [_, _]) (d' := d - 1) dX2_slackOf_16 lkX2_86 hC.q0.o (by omega) rfl rfl (Nat.le_of_ble_eq_true rfl) ⟨Nat.le_refl _, Nat.le_refl _⟩ (tX1_boundOf hC.q0 (by omega) ?_)
  refine aw_iload_n dX2_slackOf_19 rfl ?_
  refine aw_aload_n dX2_slackOf_20 rfl ?_
  refine aw_pc (pc2 := 21) rfl ?_
  refine aw_getR dX2_slackOf_21 flX2_12 hC.o hC.p1 ?_
  refine aw_cvL (As := [_, _, _]) (d' := d - 1) dX2_slackOf_24 lkX2_90 hC.q0.o (by omega) rfl rfl (Nat.le_of_ble_eq_true rfl) ⟨Nat.le_refl _, Nat.le_refl _⟩ (tX1_leftOf hC.q0 hC.q1 hn hn3 hl (by omega) ?_)
  exact aw_lret dX2_slackOf_27 rfl (hQ) (Nat.zero_le _) (Nat.zero_le _)
theorem lX2_isWeighedRight {G : aw_G} {d : Nat} {Ω : aw_O} {I : aw_MI} {J : aw_MJ} {Q : Int32 → aw_O → aw_MI → aw_MJ → Prop} {s c n m : Nat} (hC : aw_cert Ω s c) (hn : I c 0 = nI n) (hn3 : n ≤ 3) (hm : I c 2 = nI m) (hm6 : m ≤ 6) (hd : 3 ≤ d)  : ∀ (z k : Nat), z + k = m → Q (sp_al (sq_wr I J c (s + 1)) k z) Ω I J → AW G MX2_isWeighedRight (aw_nx Ω) d 0 0 (aw_QI Q) Ω I J 0 0 [.ref (aw_ad G s), .int (nI k)] 2 [] := by
  intro z
  induction z with
  | zero =>
    intro k h0 hQ
    refine aw_iload_n dX2_isWeighedRight_2 rfl ?_
    refine aw_aload_n dX2_isWeighedRight_3 rfl ?_
    refine aw_getR dX2_isWeighedRight_4 flX2_18 hC.o hC.p0 ?_
    refine aw_getIv (v := nI m) dX2_isWeighedRight_7 flX2_28 hC.q0.o hm ?_
    refine aw_geN (t := 46) dX2_isWeighedRight_10 (by decide) (by omega) (by omega) (fun h1 => ?_) (fun h1 => absurd h1 (by omega))
    refine aw_iconst (v := nI 1) dX2_isWeighedRight_46 (by decide) ?_
    exact aw_zret dX2_isWeighedRight_47 rfl (by decide) hQ (Nat.zero_le _) (Nat.zero_le _)
  | succ z ih =>
    intro k h0 hQ
    refine aw_iload_n dX2_isWeighedRight_2 rfl ?_
    refine aw_aload_n dX2_isWeighedRight_3 rfl ?_
    refine aw_getR dX2_isWeighedRight_4 flX2_18 hC.o hC.p0 ?_
    refine aw_getIv (v := nI m) dX2_isWeighedRight_7 flX2_28 hC.q0.o hm ?_
    refine aw_geN (t := 46) dX2_isWeighedRight_10 (by decide) (by omega) (by omega) (fun h1 => ?_) (fun h1 => ?_)
    · skip
      refine aw_iconst (v := nI 1) dX2_isWeighedRight_46 (by decide) ?_
      exact aw_zret dX2_isWeighedRight_47 rfl (by decide) (absurd h1 (by omega)) (Nat.zero_le _) (Nat.zero_le _)
    · skip
      refine aw_aload_n dX2_isWeighedRight_13 rfl ?_
      refine aw_getR dX2_isWeighedRight_14 flX2_12 hC.o hC.p1 ?_
      refine aw_getR dX2_isWeighedRight_17 flX2_53 hC.q1.o hC.q1.p1 ?_
      refine aw_iload_n dX2_isWeighedRight_20 rfl ?_
      refine aw_lald dX2_isWeighedRight_21 hC.q1.s1 rfl (by omega) ?_
      refine aw_pc (pc2 := 22) rfl ?_
      refine aw_lconst (v := 0) dX2_isWeighedRight_22 (by decide) ?_
      refine aw_lcmp dX2_isWeighedRight_23 ?_
      refine aw_if_ge (t := 40) dX2_isWeighedRight_24 (by decide) (fun h2 => ?_) (fun h2 => ?_)
      · skip
        refine aw_iincN dX2_isWeighedRight_40 rfl (by decide) ?_
        refine aw_lv (lv2 := [.ref _, .int _]) rfl ?_
        refine aw_goto (t := 2) dX2_isWeighedRight_43 (by decide) ?_
        exact ih (k + 1) (by omega) (by rw [sp_al, if_pos (by simp only [sq_wr, decide_eq_true_eq, lcmpE, lcmpL, lcmpG, Classical.not_not, Classical.not_imp] at *; first | assumption | (intro _; assumption) | (intro q; exact absurd q (by assumption)) | (intro q; exact absurd (by assumption) q) | exact ⟨by assumption, by assumption⟩)] at hQ; exact hQ)
      · skip
        refine aw_aload_n dX2_isWeighedRight_27 rfl ?_
        refine aw_getR dX2_isWeighedRight_28 flX2_18 hC.o hC.p0 ?_
        refine aw_iload_n dX2_isWeighedRight_31 rfl ?_
        refine aw_cvI (As := [_]) (d' := d - 1) dX2_isWeighedRight_32 lkX2_104 hC.q0.o (by omega) rfl rfl (Nat.le_of_ble_eq_true rfl) ⟨Nat.le_refl _, Nat.le_refl _⟩ (tX1_isOn hC.q0 (by omega) ?_)
        refine aw_if_ne (t := 40) dX2_isWeighedRight_35 (by decide) (fun h3 => ?_) (fun h3 => ?_)
        · skip
          refine aw_iincN dX2_isWeighedRight_40 rfl (by decide) ?_
          refine aw_lv (lv2 := [.ref _, .int _]) rfl ?_
          refine aw_goto (t := 2) dX2_isWeighedRight_43 (by decide) ?_
          exact ih (k + 1) (by omega) (by rw [sp_al, if_pos (by simp only [sq_wr, decide_eq_true_eq, lcmpE, lcmpL, lcmpG, Classical.not_not, Classical.not_imp] at *; first | assumption | (intro _; assumption) | (intro q; exact absurd q (by assumption)) | (intro q; exact absurd (by assumption) q) | exact ⟨by assumption, by assumption⟩)] at hQ; exact hQ)
        · skip
          refine aw_iconst (v := nI 0) dX2_isWeighedRight_38 (by decide) ?_
          exact aw_zret dX2_isWeighedRight_39 rfl (by decide) (by rw [sp_al, if_neg (by simp only [sq_wr, decide_eq_true_eq, lcmpE, lcmpL, lcmpG, Classical.not_not, Classical.not_imp] at *; first | assumption | (intro _; assumption) | (intro q; exact absurd q (by assumption)) | (intro q; exact absurd (by assumption) q) | exact ⟨by assumption, by assumption⟩)] at hQ; exact hQ) (Nat.zero_le _) (Nat.zero_le _)
theorem tX2_isWeighedRight {G : aw_G} {d : Nat} {Ω : aw_O} {I : aw_MI} {J : aw_MJ} {Q : Int32 → aw_O → aw_MI → aw_MJ → Prop} {s c n m : Nat} (hC : aw_cert Ω s c) (hn : I c 0 = nI n) (hn3 : n ≤ 3) (hm : I c 2 = nI m) (hm6 : m ≤ 6) (hd : 3 ≤ d) (hQ : Q (sp_al (sq_wr I J c (s + 1)) 0 m) Ω I J) : aw_Call G MX2_isWeighedRight d 0 0 [.ref (aw_ad G s)] Ω I J (aw_QI Q) := by
  refine aw_enter (by decide +kernel) rfl (Nat.le_of_ble_eq_true rfl) ?_
  show AW G MX2_isWeighedRight (aw_nx Ω) d 0 0 (aw_QI Q) Ω I J 0 0 [.ref (aw_ad G s), .null] 0 []
  refine aw_iconst (v := nI 0) dX2_isWeighedRight_0 (by decide) ?_
  refine aw_istore_n dX2_isWeighedRight_1 (by decide) ?_
  refine aw_lv (lv2 := [.ref _, .int _]) rfl ?_
  exact lX2_isWeighedRight hC hn hn3 hm hm6 hd m 0 (by omega) hQ
theorem lX2_isHeld {G : aw_G} {d : Nat} {Ω : aw_O} {I : aw_MI} {J : aw_MJ} {Q : Int32 → aw_O → aw_MI → aw_MJ → Prop} {s c n m : Nat} (hC : aw_cert Ω s c) (hn : I c 0 = nI n) (hn3 : n ≤ 3) (hm : I c 2 = nI m) (hm6 : m ≤ 6) (hd : 3 ≤ d)  : ∀ (z k : Nat), z + k = m → Q (sp_al (sq_hd I J c (s + 1) n) k z) Ω I J → AW G MX2_isHeld (aw_nx Ω) d 0 0 (aw_QI Q) Ω I J 0 0 [.ref (aw_ad G s), .int (nI k)] 2 [] := by
  intro z
  induction z with
  | zero =>
    intro k h0 hQ
    refine aw_iload_n dX2_isHeld_2 rfl ?_
    refine aw_aload_n dX2_isHeld_3 rfl ?_
    refine aw_getR dX2_isHeld_4 flX2_18 hC.o hC.p0 ?_
    refine aw_getIv (v := nI m) dX2_isHeld_7 flX2_28 hC.q0.o hm ?_
    refine aw_geN (t := 37) dX2_isHeld_10 (by decide) (by omega) (by omega) (fun h1 => ?_) (fun h1 => absurd h1 (by omega))
    refine aw_iconst (v := nI 1) dX2_isHeld_37 (by decide) ?_
    exact aw_zret dX2_isHeld_38 rfl (by decide) hQ (Nat.zero_le _) (Nat.zero_le _)
  | succ z ih =>
    intro k h0 hQ
    refine aw_iload_n dX2_isHeld_2 rfl ?_
    refine aw_aload_n dX2_isHeld_3 rfl ?_
    refine aw_getR dX2_isHeld_4 flX2_18 hC.o hC.p0 ?_
    refine aw_getIv (v := nI m) dX2_isHeld_7 flX2_28 hC.q0.o hm ?_
    refine aw_geN (t := 37) dX2_isHeld_10 (by decide) (by omega) (by omega) (fun h1 => ?_) (fun h1 => ?_)
    · skip
      refine aw_iconst (v := nI 1) dX2_isHeld_37 (by decide) ?_
      exact aw_zret dX2_isHeld_38 rfl (by decide) (absurd h1 (by omega)) (Nat.zero_le _) (Nat.zero_le _)
    · skip
      refine aw_aload_n dX2_isHeld_13 rfl ?_
      refine aw_getR dX2_isHeld_14 flX2_18 hC.o hC.p0 ?_
      refine aw_iload_n dX2_isHeld_17 rfl ?_
      refine aw_aload_n dX2_isHeld_18 rfl ?_
      refine aw_iload_n dX2_isHeld_19 rfl ?_
      refine aw_pc (pc2 := 20) rfl ?_
      refine aw_cvL (As := [_]) (d' := d - 1) dX2_isHeld_20 lkX2_108 hC.o (by omega) rfl rfl (Nat.le_of_ble_eq_true rfl) ⟨Nat.le_refl _, Nat.le_refl _⟩ (tX2_slackOf hC hn hn3 (by omega) (by omega) ?_)
      refine aw_cvI (As := [_, _]) (d' := d - 1) dX2_isHeld_23 lkX2_112 hC.q0.o (by omega) rfl rfl (Nat.le_of_ble_eq_true rfl) ⟨Nat.le_refl _, Nat.le_refl _⟩ (tX1_isHeldBy hC.q0 (by omega) (by omega) ?_)
      refine aw_if_ne (t := 31) dX2_isHeld_26 (by decide) (fun h2 => ?_) (fun h2 => ?_)
      · skip
        refine aw_iincN dX2_isHeld_31 rfl (by decide) ?_
        refine aw_lv (lv2 := [.ref _, .int _]) rfl ?_
        refine aw_goto (t := 2) dX2_isHeld_34 (by decide) ?_
        exact ih (k + 1) (by omega) (by rw [sp_al, if_pos (by simp only [sq_hd, decide_eq_true_eq, lcmpE, lcmpL, lcmpG, Classical.not_not, Classical.not_imp] at *; first | assumption | (intro _; assumption) | (intro q; exact absurd q (by assumption)) | (intro q; exact absurd (by assumption) q) | exact ⟨by assumption, by assumption⟩)] at hQ; exact hQ)
      · skip
        refine aw_iconst (v := nI 0) dX2_isHeld_29 (by decide) ?_
        exact aw_zret dX2_isHeld_30 rfl (by decide) (by rw [sp_al, if_neg (by simp only [sq_hd, decide_eq_true_eq, lcmpE, lcmpL, lcmpG, Classical.not_not, Classical.not_imp] at *; first | assumption | (intro _; assumption) | (intro q; exact absurd q (by assumption)) | (intro q; exact absurd (by assumption) q) | exact ⟨by assumption, by assumption⟩)] at hQ; exact hQ) (Nat.zero_le _) (Nat.zero_le _)
theorem tX2_isHeld {G : aw_G} {d : Nat} {Ω : aw_O} {I : aw_MI} {J : aw_MJ} {Q : Int32 → aw_O → aw_MI → aw_MJ → Prop} {s c n m : Nat} (hC : aw_cert Ω s c) (hn : I c 0 = nI n) (hn3 : n ≤ 3) (hm : I c 2 = nI m) (hm6 : m ≤ 6) (hd : 3 ≤ d) (hQ : Q (sp_al (sq_hd I J c (s + 1) n) 0 m) Ω I J) : aw_Call G MX2_isHeld d 0 0 [.ref (aw_ad G s)] Ω I J (aw_QI Q) := by
  refine aw_enter (by decide +kernel) rfl (Nat.le_of_ble_eq_true rfl) ?_
  show AW G MX2_isHeld (aw_nx Ω) d 0 0 (aw_QI Q) Ω I J 0 0 [.ref (aw_ad G s), .null] 0 []
  refine aw_iconst (v := nI 0) dX2_isHeld_0 (by decide) ?_
  refine aw_istore_n dX2_isHeld_1 (by decide) ?_
  refine aw_lv (lv2 := [.ref _, .int _]) rfl ?_
  exact lX2_isHeld hC hn hn3 hm hm6 hd m 0 (by omega) hQ
theorem lX2_isWeightOnlyWhereTight {G : aw_G} {d : Nat} {Ω : aw_O} {I : aw_MI} {J : aw_MJ} {Q : Int32 → aw_O → aw_MI → aw_MJ → Prop} {s c n m : Nat} (hC : aw_cert Ω s c) (hn : I c 0 = nI n) (hn3 : n ≤ 3) (hm : I c 2 = nI m) (hm6 : m ≤ 6) (hd : 3 ≤ d)  : ∀ (z k : Nat), z + k = m → Q (sp_al (sq_ti I J c (s + 1) n) k z) Ω I J → AW G MX2_isWeightOnlyWhereTight (aw_nx Ω) d 0 0 (aw_QI Q) Ω I J 0 0 [.ref (aw_ad G s), .int (nI k)] 2 [] := by
  intro z
  induction z with
  | zero =>
    intro k h0 hQ
    refine aw_iload_n dX2_isWeightOnlyWhereTight_2 rfl ?_
    refine aw_aload_n dX2_isWeightOnlyWhereTight_3 rfl ?_
    refine aw_getR dX2_isWeightOnlyWhereTight_4 flX2_18 hC.o hC.p0 ?_
    refine aw_getIv (v := nI m) dX2_isWeightOnlyWhereTight_7 flX2_28 hC.q0.o hm ?_
    refine aw_geN (t := 45) dX2_isWeightOnlyWhereTight_10 (by decide) (by omega) (by omega) (fun h1 => ?_) (fun h1 => absurd h1 (by omega))
    refine aw_iconst (v := nI 1) dX2_isWeightOnlyWhereTight_45 (by decide) ?_
    exact aw_zret dX2_isWeightOnlyWhereTight_46 rfl (by decide) hQ (Nat.zero_le _) (Nat.zero_le _)
  | succ z ih =>
    intro k h0 hQ
    refine aw_iload_n dX2_isWeightOnlyWhereTight_2 rfl ?_
    refine aw_aload_n dX2_isWeightOnlyWhereTight_3 rfl ?_
    refine aw_getR dX2_isWeightOnlyWhereTight_4 flX2_18 hC.o hC.p0 ?_
    refine aw_getIv (v := nI m) dX2_isWeightOnlyWhereTight_7 flX2_28 hC.q0.o hm ?_
    refine aw_geN (t := 45) dX2_isWeightOnlyWhereTight_10 (by decide) (by omega) (by omega) (fun h1 => ?_) (fun h1 => ?_)
    · skip
      refine aw_iconst (v := nI 1) dX2_isWeightOnlyWhereTight_45 (by decide) ?_
      exact aw_zret dX2_isWeightOnlyWhereTight_46 rfl (by decide) (absurd h1 (by omega)) (Nat.zero_le _) (Nat.zero_le _)
    · skip
      refine aw_aload_n dX2_isWeightOnlyWhereTight_13 rfl ?_
      refine aw_getR dX2_isWeightOnlyWhereTight_14 flX2_12 hC.o hC.p1 ?_
      refine aw_getR dX2_isWeightOnlyWhereTight_17 flX2_53 hC.q1.o hC.q1.p1 ?_
      refine aw_iload_n dX2_isWeightOnlyWhereTight_20 rfl ?_
      refine aw_lald dX2_isWeightOnlyWhereTight_21 hC.q1.s1 rfl (by omega) ?_
      refine aw_pc (pc2 := 22) rfl ?_
      refine aw_lconst (v := 0) dX2_isWeightOnlyWhereTight_22 (by decide) ?_
      refine aw_lcmp dX2_isWeightOnlyWhereTight_23 ?_
      refine aw_if_eq (t := 39) dX2_isWeightOnlyWhereTight_24 (by decide) (fun h2 => ?_) (fun h2 => ?_)
      · skip
        refine aw_iincN dX2_isWeightOnlyWhereTight_39 rfl (by decide) ?_
        refine aw_lv (lv2 := [.ref _, .int _]) rfl ?_
        refine aw_goto (t := 2) dX2_isWeightOnlyWhereTight_42 (by decide) ?_
        exact ih (k + 1) (by omega) (by rw [sp_al, if_pos (by simp only [sq_ti, decide_eq_true_eq, lcmpE, lcmpL, lcmpG, Classical.not_not, Classical.not_imp] at *; first | assumption | (intro _; assumption) | (intro q; exact absurd q (by assumption)) | (intro q; exact absurd (by assumption) q) | exact ⟨by assumption, by assumption⟩)] at hQ; exact hQ)
      · skip
        refine aw_aload_n dX2_isWeightOnlyWhereTight_27 rfl ?_
        refine aw_iload_n dX2_isWeightOnlyWhereTight_28 rfl ?_
        refine aw_cvL (As := [_]) (d' := d - 1) dX2_isWeightOnlyWhereTight_29 lkX2_108 hC.o (by omega) rfl rfl (Nat.le_of_ble_eq_true rfl) ⟨Nat.le_refl _, Nat.le_refl _⟩ (tX2_slackOf hC hn hn3 (by omega) (by omega) ?_)
        refine aw_lconst (v := 0) dX2_isWeightOnlyWhereTight_32 (by decide) ?_
        refine aw_lcmp dX2_isWeightOnlyWhereTight_33 ?_
        refine aw_pc (pc2 := 34) rfl ?_
        refine aw_if_eq (t := 39) dX2_isWeightOnlyWhereTight_34 (by decide) (fun h3 => ?_) (fun h3 => ?_)
        · skip
          refine aw_iincN dX2_isWeightOnlyWhereTight_39 rfl (by decide) ?_
          refine aw_lv (lv2 := [.ref _, .int _]) rfl ?_
          refine aw_goto (t := 2) dX2_isWeightOnlyWhereTight_42 (by decide) ?_
          exact ih (k + 1) (by omega) (by rw [sp_al, if_pos (by simp only [sq_ti, decide_eq_true_eq, lcmpE, lcmpL, lcmpG, Classical.not_not, Classical.not_imp] at *; first | assumption | (intro _; assumption) | (intro q; exact absurd q (by assumption)) | (intro q; exact absurd (by assumption) q) | exact ⟨by assumption, by assumption⟩)] at hQ; exact hQ)
        · skip
          refine aw_iconst (v := nI 0) dX2_isWeightOnlyWhereTight_37 (by decide) ?_
          exact aw_zret dX2_isWeightOnlyWhereTight_38 rfl (by decide) (by rw [sp_al, if_neg (by simp only [sq_ti, decide_eq_true_eq, lcmpE, lcmpL, lcmpG, Classical.not_not, Classical.not_imp] at *; first | assumption | (intro _; assumption) | (intro q; exact absurd q (by assumption)) | (intro q; exact absurd (by assumption) q) | exact ⟨by assumption, by assumption⟩)] at hQ; exact hQ) (Nat.zero_le _) (Nat.zero_le _)
theorem tX2_isWeightOnlyWhereTight {G : aw_G} {d : Nat} {Ω : aw_O} {I : aw_MI} {J : aw_MJ} {Q : Int32 → aw_O → aw_MI → aw_MJ → Prop} {s c n m : Nat} (hC : aw_cert Ω s c) (hn : I c 0 = nI n) (hn3 : n ≤ 3) (hm : I c 2 = nI m) (hm6 : m ≤ 6) (hd : 3 ≤ d) (hQ : Q (sp_al (sq_ti I J c (s + 1) n) 0 m) Ω I J) : aw_Call G MX2_isWeightOnlyWhereTight d 0 0 [.ref (aw_ad G s)] Ω I J (aw_QI Q) := by
  refine aw_enter (by decide +kernel) rfl (Nat.le_of_ble_eq_true rfl) ?_
  show AW G MX2_isWeightOnlyWhereTight (aw_nx Ω) d 0 0 (aw_QI Q) Ω I J 0 0 [.ref (aw_ad G s), .null] 0 []
  refine aw_iconst (v := nI 0) dX2_isWeightOnlyWhereTight_0 (by decide) ?_
  refine aw_istore_n dX2_isWeightOnlyWhereTight_1 (by decide) ?_
  refine aw_lv (lv2 := [.ref _, .int _]) rfl ?_
  exact lX2_isWeightOnlyWhereTight hC hn hn3 hm hm6 hd m 0 (by omega) hQ
theorem lX2_isBalanced3 {G : aw_G} {d : Nat} {Ω : aw_O} {I : aw_MI} {J : aw_MJ} {Q : Int32 → aw_O → aw_MI → aw_MJ → Prop} {s c n m k : Nat} (hC : aw_cert Ω s c) (hn : I c 0 = nI n) (hn3 : n ≤ 3) (hm : I c 2 = nI m) (hm6 : m ≤ 6) (hk : k < n) (hd : 2 ≤ d) (kk : sq_bal I J c (s + 1) n m k = true → AW G MX2_isBalanced (aw_nx Ω) d 0 0 (aw_QI Q) Ω I J 0 0 [.ref (aw_ad G s), .int (nI (k + 1)), .null, .null, .null] 2 []) (kf : ¬ sq_bal I J c (s + 1) n m k = true → Q (nI 0) Ω I J) : ∀ (z i : Nat), i ≤ m → m - i < z → AW G MX2_isBalanced (aw_nx Ω) d 0 0 (aw_QI Q) Ω I J 0 0 [.ref (aw_ad G s), .int (nI k), .long (sp_s1 (sp_s1 ((I (c + 2) k).toInt64 * J (s + 1) 2) (fun j => I (c + 1) (k * 3 + j)) (J (s + 2)) n) (fun l => sp_rw I c l k) (J (s + 3)) i), .null, .int (nI i)] 81 [] := by
  intro z
  induction z with
  | zero =>
    intro i h0 hz
    exact absurd hz (by omega)
  | succ z ih =>
    intro i h0 hz
    refine aw_iload dX2_isBalanced_81 rfl ?_
    refine aw_aload_n dX2_isBalanced_83 rfl ?_
    refine aw_getR dX2_isBalanced_84 flX2_18 hC.o hC.p0 ?_
    refine aw_getIv (v := nI m) dX2_isBalanced_87 flX2_28 hC.q0.o hm ?_
    refine aw_geN (t := 124) dX2_isBalanced_90 (by decide) (by omega) (by omega) (fun h1 => ?_) (fun h1 => ?_)
    · skip
      refine aw_lload_n dX2_isBalanced_124 rfl ?_
      refine aw_lconst (v := 0) dX2_isBalanced_125 (by decide) ?_
      refine aw_lcmp dX2_isBalanced_126 ?_
      refine aw_if_eq (t := 132) dX2_isBalanced_127 (by decide) (fun h2 => ?_) (fun h2 => ?_)
      · skip
        refine aw_iincN dX2_isBalanced_132 rfl (by decide) ?_
        refine aw_lv (lv2 := [.ref _, .int _, .long _, .null, .int _]) rfl ?_
        refine aw_goto (t := 2) dX2_isBalanced_135 (by decide) ?_
        have e1 : i = m := by omega
        subst e1
        refine aw_frg 2 ?_
        refine aw_frg 4 ?_
        exact kk (by simp only [sq_bal, decide_eq_true_eq]; exact lcmpE.mp h2)
      · skip
        refine aw_iconst (v := nI 0) dX2_isBalanced_130 (by decide) ?_
        have e1 : i = m := by omega
        subst e1
        exact aw_zret dX2_isBalanced_131 rfl (by decide) (kf (by simp only [sq_bal, decide_eq_true_eq]; exact fun q => h2 (lcmpE.mpr q))) (Nat.zero_le _) (Nat.zero_le _)
    · skip
      refine aw_lload_n dX2_isBalanced_93 rfl ?_
      refine aw_aload_n dX2_isBalanced_94 rfl ?_
      refine aw_getR dX2_isBalanced_95 flX2_18 hC.o hC.p0 ?_
      refine aw_iload dX2_isBalanced_98 rfl ?_
      refine aw_iload_n dX2_isBalanced_100 rfl ?_
      refine aw_pc (pc2 := 101) rfl ?_
      refine aw_cvI (As := [_, _]) (d' := d - 1) dX2_isBalanced_101 lkX2_101 hC.q0.o (by omega) rfl rfl (Nat.le_of_ble_eq_true rfl) ⟨Nat.le_refl _, Nat.le_refl _⟩ (tX1_rowOf hC.q0 (by omega) (by omega) ?_)
      refine aw_i2l dX2_isBalanced_104 ?_
      refine aw_aload_n dX2_isBalanced_105 rfl ?_
      refine aw_getR dX2_isBalanced_106 flX2_12 hC.o hC.p1 ?_
      refine aw_getR dX2_isBalanced_109 flX2_53 hC.q1.o hC.q1.p1 ?_
      refine aw_iload dX2_isBalanced_112 rfl ?_
      refine aw_pc (pc2 := 114) rfl ?_
      refine aw_lald dX2_isBalanced_114 hC.q1.s1 rfl (by omega) ?_
      refine aw_lmul dX2_isBalanced_115 ?_
      refine aw_ladd dX2_isBalanced_116 ?_
      refine aw_lstore_n dX2_isBalanced_117 (by decide) ?_
      refine aw_lv (lv2 := [.ref _, .int _, .long _, .null, .int _]) rfl ?_
      refine aw_iincN dX2_isBalanced_118 rfl (by decide) ?_
      refine aw_lv (lv2 := [.ref _, .int _, .long _, .null, .int _]) rfl ?_
      refine aw_goto (t := 81) dX2_isBalanced_121 (by decide) ?_
      exact ih (i + 1) (by omega) (by omega)
theorem lX2_isBalanced2 {G : aw_G} {d : Nat} {Ω : aw_O} {I : aw_MI} {J : aw_MJ} {Q : Int32 → aw_O → aw_MI → aw_MJ → Prop} {s c n m k : Nat} (hC : aw_cert Ω s c) (hn : I c 0 = nI n) (hn3 : n ≤ 3) (hm : I c 2 = nI m) (hm6 : m ≤ 6) (hk : k < n) (hd : 2 ≤ d) (kk : sq_bal I J c (s + 1) n m k = true → AW G MX2_isBalanced (aw_nx Ω) d 0 0 (aw_QI Q) Ω I J 0 0 [.ref (aw_ad G s), .int (nI (k + 1)), .null, .null, .null] 2 []) (kf : ¬ sq_bal I J c (s + 1) n m k = true → Q (nI 0) Ω I J) : ∀ (z i : Nat), i ≤ n → n - i < z → AW G MX2_isBalanced (aw_nx Ω) d 0 0 (aw_QI Q) Ω I J 0 0 [.ref (aw_ad G s), .int (nI k), .long (sp_s1 ((I (c + 2) k).toInt64 * J (s + 1) 2) (fun j => I (c + 1) (k * 3 + j)) (J (s + 2)) i), .null, .int (nI i)] 35 [] := by
  intro z
  induction z with
  | zero =>
    intro i h0 hz
    exact absurd hz (by omega)
  | succ z ih =>
    intro i h0 hz
    refine aw_iload dX2_isBalanced_35 rfl ?_
    refine aw_aload_n dX2_isBalanced_37 rfl ?_
    refine aw_getR dX2_isBalanced_38 flX2_18 hC.o hC.p0 ?_
    refine aw_getIv (v := nI n) dX2_isBalanced_41 flX2_22 hC.q0.o hn ?_
    refine aw_geN (t := 78) dX2_isBalanced_44 (by decide) (by omega) (by omega) (fun h1 => ?_) (fun h1 => ?_)
    · skip
      refine aw_iconst (v := nI 0) dX2_isBalanced_78 (by decide) ?_
      refine aw_istore dX2_isBalanced_79 (by decide) ?_
      refine aw_lv (lv2 := [.ref _, .int _, .long _, .null, .int _]) rfl ?_
      have e1 : i = n := by omega
      subst e1
      exact lX2_isBalanced3 hC hn hn3 hm hm6 hk hd kk kf (m + 1) 0 (by omega) (by omega)
    · skip
      refine aw_lload_n dX2_isBalanced_47 rfl ?_
      refine aw_aload_n dX2_isBalanced_48 rfl ?_
      refine aw_getR dX2_isBalanced_49 flX2_18 hC.o hC.p0 ?_
      refine aw_iload_n dX2_isBalanced_52 rfl ?_
      refine aw_iload dX2_isBalanced_53 rfl ?_
      refine aw_pc (pc2 := 55) rfl ?_
      refine aw_cvI (As := [_, _]) (d' := d - 1) dX2_isBalanced_55 lkX2_98 hC.q0.o (by omega) rfl rfl (Nat.le_of_ble_eq_true rfl) ⟨Nat.le_refl _, Nat.le_refl _⟩ (tX1_bendOf hC.q0 (by omega) (by omega) ?_)
      refine aw_i2l dX2_isBalanced_58 ?_
      refine aw_aload_n dX2_isBalanced_59 rfl ?_
      refine aw_getR dX2_isBalanced_60 flX2_12 hC.o hC.p1 ?_
      refine aw_getR dX2_isBalanced_63 flX2_45 hC.q1.o hC.q1.p0 ?_
      refine aw_iload dX2_isBalanced_66 rfl ?_
      refine aw_pc (pc2 := 68) rfl ?_
      refine aw_lald dX2_isBalanced_68 hC.q1.s0 rfl (by omega) ?_
      refine aw_lmul dX2_isBalanced_69 ?_
      refine aw_ladd dX2_isBalanced_70 ?_
      refine aw_lstore_n dX2_isBalanced_71 (by decide) ?_
      refine aw_lv (lv2 := [.ref _, .int _, .long _, .null, .int _]) rfl ?_
      refine aw_iincN dX2_isBalanced_72 rfl (by decide) ?_
      refine aw_lv (lv2 := [.ref _, .int _, .long _, .null, .int _]) rfl ?_
      refine aw_goto (t := 35) dX2_isBalanced_75 (by decide) ?_
      exact ih (i + 1) (by omega) (by omega)
theorem lX2_isBalanced1 {G : aw_G} {d : Nat} {Ω : aw_O} {I : aw_MI} {J : aw_MJ} {Q : Int32 → aw_O → aw_MI → aw_MJ → Prop} {s c n m : Nat} (hC : aw_cert Ω s c) (hn : I c 0 = nI n) (hn3 : n ≤ 3) (hm : I c 2 = nI m) (hm6 : m ≤ 6) (hd : 2 ≤ d)  : ∀ (z k : Nat), z + k = n → Q (sp_al (sq_bal I J c (s + 1) n m) k z) Ω I J → AW G MX2_isBalanced (aw_nx Ω) d 0 0 (aw_QI Q) Ω I J 0 0 [.ref (aw_ad G s), .int (nI k), .null, .null, .null] 2 [] := by
  intro z
  induction z with
  | zero =>
    intro k h0 hQ
    refine aw_iload_n dX2_isBalanced_2 rfl ?_
    refine aw_aload_n dX2_isBalanced_3 rfl ?_
    refine aw_getR dX2_isBalanced_4 flX2_18 hC.o hC.p0 ?_
    refine aw_getIv (v := nI n) dX2_isBalanced_7 flX2_22 hC.q0.o hn ?_
    refine aw_geN (t := 138) dX2_isBalanced_10 (by decide) (by omega) (by omega) (fun h1 => ?_) (fun h1 => absurd h1 (by omega))
    refine aw_iconst (v := nI 1) dX2_isBalanced_138 (by decide) ?_
    exact aw_zret dX2_isBalanced_139 rfl (by decide) hQ (Nat.zero_le _) (Nat.zero_le _)
  | succ z ih =>
    intro k h0 hQ
    refine aw_iload_n dX2_isBalanced_2 rfl ?_
    refine aw_aload_n dX2_isBalanced_3 rfl ?_
    refine aw_getR dX2_isBalanced_4 flX2_18 hC.o hC.p0 ?_
    refine aw_getIv (v := nI n) dX2_isBalanced_7 flX2_22 hC.q0.o hn ?_
    refine aw_geN (t := 138) dX2_isBalanced_10 (by decide) (by omega) (by omega) (fun h1 => ?_) (fun h1 => ?_)
    · skip
      refine aw_iconst (v := nI 1) dX2_isBalanced_138 (by decide) ?_
      exact aw_zret dX2_isBalanced_139 rfl (by decide) (absurd h1 (by omega)) (Nat.zero_le _) (Nat.zero_le _)
    · skip
      refine aw_aload_n dX2_isBalanced_13 rfl ?_
      refine aw_getR dX2_isBalanced_14 flX2_18 hC.o hC.p0 ?_
      refine aw_getR dX2_isBalanced_17 flX2_94 hC.q0.o hC.q0.p4 ?_
      refine aw_iload_n dX2_isBalanced_20 rfl ?_
      refine aw_iald dX2_isBalanced_21 hC.q0.s4 rfl (by omega) ?_
      refine aw_pc (pc2 := 22) rfl ?_
      refine aw_i2l dX2_isBalanced_22 ?_
      refine aw_aload_n dX2_isBalanced_23 rfl ?_
      refine aw_getR dX2_isBalanced_24 flX2_12 hC.o hC.p1 ?_
      refine aw_getJ dX2_isBalanced_27 flX2_56 hC.q1.o ?_
      refine aw_lmul dX2_isBalanced_30 ?_
      refine aw_lstore_n dX2_isBalanced_31 (by decide) ?_
      refine aw_lv (lv2 := [.ref _, .int _, .long _, .null, .null]) rfl ?_
      refine aw_pc (pc2 := 32) rfl ?_
      refine aw_iconst (v := nI 0) dX2_isBalanced_32 (by decide) ?_
      refine aw_istore dX2_isBalanced_33 (by decide) ?_
      refine aw_lv (lv2 := [.ref _, .int _, .long _, .null, .int _]) rfl ?_
      exact lX2_isBalanced2 hC hn hn3 hm hm6 (by omega) hd (fun q => ih (k + 1) (by omega) (by rw [sp_al, if_pos q] at hQ; exact hQ)) (fun q => by rw [sp_al, if_neg q] at hQ; exact hQ) (n + 1) 0 (by omega) (by omega)
theorem tX2_isBalanced {G : aw_G} {d : Nat} {Ω : aw_O} {I : aw_MI} {J : aw_MJ} {Q : Int32 → aw_O → aw_MI → aw_MJ → Prop} {s c n m : Nat} (hC : aw_cert Ω s c) (hn : I c 0 = nI n) (hn3 : n ≤ 3) (hm : I c 2 = nI m) (hm6 : m ≤ 6) (hd : 2 ≤ d) (hQ : Q (sp_al (sq_bal I J c (s + 1) n m) 0 n) Ω I J) : aw_Call G MX2_isBalanced d 0 0 [.ref (aw_ad G s)] Ω I J (aw_QI Q) := by
  refine aw_enter (by decide +kernel) rfl (Nat.le_of_ble_eq_true rfl) ?_
  show AW G MX2_isBalanced (aw_nx Ω) d 0 0 (aw_QI Q) Ω I J 0 0 [.ref (aw_ad G s), .null, .null, .null, .null] 0 []
  refine aw_iconst (v := nI 0) dX2_isBalanced_0 (by decide) ?_
  refine aw_istore_n dX2_isBalanced_1 (by decide) ?_
  refine aw_lv (lv2 := [.ref _, .int _, .null, .null, .null]) rfl ?_
  exact lX2_isBalanced1 hC hn hn3 hm hm6 hd n 0 (by omega) hQ
theorem tX2_firstWrong {G : aw_G} {d : Nat} {Ω : aw_O} {I : aw_MI} {J : aw_MJ} {Q : Int32 → aw_O → aw_MI → aw_MJ → Prop} {s c n m : Nat} (hC : aw_cert Ω s c) (hn : I c 0 = nI n) (hn3 : n ≤ 3) (hm : I c 2 = nI m) (hm6 : m ≤ 6) (hd : 4 ≤ d) (hQ : Q (sp_fw I J c (s + 1) n m) Ω I J) : aw_Call G MX2_firstWrong d 0 0 [.ref (aw_ad G s)] Ω I J (aw_QI Q) := by
  refine aw_enter (by decide +kernel) rfl (Nat.le_of_ble_eq_true rfl) ?_
  show AW G MX2_firstWrong (aw_nx Ω) d 0 0 (aw_QI Q) Ω I J 0 0 [.ref (aw_ad G s)] 0 []
  refine aw_aload_n dX2_firstWrong_0 rfl ?_
  refine aw_getR dX2_firstWrong_1 flX2_12 hC.o hC.p1 ?_
  refine aw_getJ dX2_firstWrong_4 flX2_56 hC.q1.o ?_
  refine aw_lconst (v := 1) dX2_firstWrong_7 (by decide) ?_
  refine aw_lcmp dX2_firstWrong_8 ?_
  refine aw_pc (pc2 := 9) rfl ?_
  refine aw_if_ge (t := 14) dX2_firstWrong_9 (by decide) (fun h1 => ?_) (fun h1 => ?_)
  · skip
    refine aw_aload_n dX2_firstWrong_14 rfl ?_
    refine aw_cvI (As := []) (d' := d - 1) dX2_firstWrong_15 lkX2_70 hC.o (by omega) rfl rfl (Nat.le_of_ble_eq_true rfl) ⟨Nat.le_refl _, Nat.le_refl _⟩ (tX2_isBalanced hC hn hn3 hm hm6 (by omega) ?_)
    refine aw_if_ne (t := 23) dX2_firstWrong_18 (by decide) (fun h2 => ?_) (fun h2 => ?_)
    · skip
      refine aw_aload_n dX2_firstWrong_23 rfl ?_
      refine aw_cvI (As := []) (d' := d - 1) dX2_firstWrong_24 lkX2_74 hC.o (by omega) rfl rfl (Nat.le_of_ble_eq_true rfl) ⟨Nat.le_refl _, Nat.le_refl _⟩ (tX2_isWeighedRight hC hn hn3 hm hm6 (by omega) ?_)
      refine aw_if_ne (t := 32) dX2_firstWrong_27 (by decide) (fun h3 => ?_) (fun h3 => ?_)
      · skip
        refine aw_aload_n dX2_firstWrong_32 rfl ?_
        refine aw_cvI (As := []) (d' := d - 1) dX2_firstWrong_33 lkX2_77 hC.o (by omega) rfl rfl (Nat.le_of_ble_eq_true rfl) ⟨Nat.le_refl _, Nat.le_refl _⟩ (tX2_isHeld hC hn hn3 hm hm6 (by omega) ?_)
        refine aw_if_ne (t := 41) dX2_firstWrong_36 (by decide) (fun h4 => ?_) (fun h4 => ?_)
        · skip
          refine aw_aload_n dX2_firstWrong_41 rfl ?_
          refine aw_cvI (As := []) (d' := d - 1) dX2_firstWrong_42 lkX2_80 hC.o (by omega) rfl rfl (Nat.le_of_ble_eq_true rfl) ⟨Nat.le_refl _, Nat.le_refl _⟩ (tX2_isWeightOnlyWhereTight hC hn hn3 hm hm6 (by omega) ?_)
          refine aw_if_eq (t := 52) dX2_firstWrong_45 (by decide) (fun h5 => ?_) (fun h5 => ?_)
          · skip
            refine aw_iconst (v := nI 5) dX2_firstWrong_52 (by decide) ?_
            try simp only [lcmpE, lcmpL, lcmpG, lcmpLE, lcmpGT, nrm_le, nrm_le64, Classical.not_not] at h1
            try simp only [lcmpE, lcmpL, lcmpG, lcmpLE, lcmpGT, nrm_le, nrm_le64, Classical.not_not] at h2
            try simp only [lcmpE, lcmpL, lcmpG, lcmpLE, lcmpGT, nrm_le, nrm_le64, Classical.not_not] at h3
            try simp only [lcmpE, lcmpL, lcmpG, lcmpLE, lcmpGT, nrm_le, nrm_le64, Classical.not_not] at h4
            try simp only [lcmpE, lcmpL, lcmpG, lcmpLE, lcmpGT, nrm_le, nrm_le64, Classical.not_not] at h5
            exact aw_iret dX2_firstWrong_53 rfl (by first | (simp only [sp_fw, if_neg h1, if_neg h2, if_neg h3, if_neg h4, if_pos h5] at hQ; exact hQ) | (unfold sp_fw at hQ; rw [if_neg h1, if_neg h2, if_neg h3, if_neg h4, if_pos h5] at hQ; exact hQ) | contradiction) (Nat.zero_le _) (Nat.zero_le _)
          · skip
            refine aw_iconst (v := nI 0) dX2_firstWrong_48 (by decide) ?_
            refine aw_goto (t := 53) dX2_firstWrong_49 (by decide) ?_
            try simp only [lcmpE, lcmpL, lcmpG, lcmpLE, lcmpGT, nrm_le, nrm_le64, Classical.not_not] at h1
            try simp only [lcmpE, lcmpL, lcmpG, lcmpLE, lcmpGT, nrm_le, nrm_le64, Classical.not_not] at h2
            try simp only [lcmpE, lcmpL, lcmpG, lcmpLE, lcmpGT, nrm_le, nrm_le64, Classical.not_not] at h3
            try simp only [lcmpE, lcmpL, lcmpG, lcmpLE, lcmpGT, nrm_le, nrm_le64, Classical.not_not] at h4
            try simp only [lcmpE, lcmpL, lcmpG, lcmpLE, lcmpGT, nrm_le, nrm_le64, Classical.not_not] at h5
            exact aw_iret dX2_firstWrong_53 rfl (by first | (simp only [sp_fw, if_neg h1, if_neg h2, if_neg h3, if_neg h4, if_neg h5] at hQ; exact hQ) | (unfold sp_fw at hQ; rw [if_neg h1, if_neg h2, if_neg h3, if_neg h4, if_neg h5] at hQ; exact hQ) | contradiction) (Nat.zero_le _) (Nat.zero_le _)
        · skip
          refine aw_iconst (v := nI 4) dX2_firstWrong_39 (by decide) ?_
          try simp only [lcmpE, lcmpL, lcmpG, lcmpLE, lcmpGT, nrm_le, nrm_le64, Classical.not_not] at h1
          try simp only [lcmpE, lcmpL, lcmpG, lcmpLE, lcmpGT, nrm_le, nrm_le64, Classical.not_not] at h2
          try simp only [lcmpE, lcmpL, lcmpG, lcmpLE, lcmpGT, nrm_le, nrm_le64, Classical.not_not] at h3
          try simp only [lcmpE, lcmpL, lcmpG, lcmpLE, lcmpGT, nrm_le, nrm_le64, Classical.not_not] at h4
          exact aw_iret dX2_firstWrong_40 rfl (by first | (simp only [sp_fw, if_neg h1, if_neg h2, if_neg h3, if_pos h4] at hQ; exact hQ) | (unfold sp_fw at hQ; rw [if_neg h1, if_neg h2, if_neg h3, if_pos h4] at hQ; exact hQ) | contradiction) (Nat.zero_le _) (Nat.zero_le _)
      · skip
        refine aw_iconst (v := nI 3) dX2_firstWrong_30 (by decide) ?_
        try simp only [lcmpE, lcmpL, lcmpG, lcmpLE, lcmpGT, nrm_le, nrm_le64, Classical.not_not] at h1
        try simp only [lcmpE, lcmpL, lcmpG, lcmpLE, lcmpGT, nrm_le, nrm_le64, Classical.not_not] at h2
        try simp only [lcmpE, lcmpL, lcmpG, lcmpLE, lcmpGT, nrm_le, nrm_le64, Classical.not_not] at h3
        exact aw_iret dX2_firstWrong_31 rfl (by first | (simp only [sp_fw, if_neg h1, if_neg h2, if_pos h3] at hQ; exact hQ) | (unfold sp_fw at hQ; rw [if_neg h1, if_neg h2, if_pos h3] at hQ; exact hQ) | contradiction) (Nat.zero_le _) (Nat.zero_le _)
    · skip
      refine aw_iconst (v := nI 2) dX2_firstWrong_21 (by decide) ?_
      try simp only [lcmpE, lcmpL, lcmpG, lcmpLE, lcmpGT, nrm_le, nrm_le64, Classical.not_not] at h1
      try simp only [lcmpE, lcmpL, lcmpG, lcmpLE, lcmpGT, nrm_le, nrm_le64, Classical.not_not] at h2
      exact aw_iret dX2_firstWrong_22 rfl (by first | (simp only [sp_fw, if_neg h1, if_pos h2] at hQ; exact hQ) | (unfold sp_fw at hQ; rw [if_neg h1, if_pos h2] at hQ; exact hQ) | contradiction) (Nat.zero_le _) (Nat.zero_le _)
  · skip
    refine aw_iconst (v := nI 1) dX2_firstWrong_12 (by decide) ?_
    try simp only [lcmpE, lcmpL, lcmpG, lcmpLE, lcmpGT, nrm_le, nrm_le64, Classical.not_not] at h1
    exact aw_iret dX2_firstWrong_13 rfl (by first | (simp only [sp_fw, if_pos h1] at hQ; exact hQ) | (unfold sp_fw at hQ; rw [if_pos h1] at hQ; exact hQ) | contradiction) (Nat.zero_le _) (Nat.zero_le _)
theorem lX2_take2 {G : aw_G} {d : Nat} {Ω : aw_O} {I : aw_MI} {J : aw_MJ} {Q : aw_O → aw_MI → aw_MJ → Prop} {s c n m a k : Nat} (hC : aw_cert Ω s c) (hn : I c 0 = nI n) (hn3 : n ≤ 3) (hm : I c 2 = nI m) (hm6 : m ≤ 6) (hA : aw_sheets Ω a) (hk : k < 4) (hsa : a + 3 < s) (hd : 1 ≤ d) (hQ : Q Ω I (aw_up (aw_wr (aw_wr J (s + 2) 0 n (fun i => J (a + 3) (k * 12 + i))) (s + 3) 0 m (fun l => J (a + 3) (k * 12 + (n + l)))) (s + 1) 2 (J (a + 3) (k * 12 + (n + m))))) : ∀ (z i : Nat), i ≤ m → m - i < z → AW G MX2_take (aw_nx Ω) d 0 0 (aw_QV Q) Ω I (aw_wr (aw_wr J (s + 2) 0 n (fun i => J (a + 3) (k * 12 + i))) (s + 3) 0 i (fun l => J (a + 3) (k * 12 + (n + l)))) 0 0 [.ref (aw_ad G s), .ref (aw_ad G a), .int (nI k), .int (nI n), .int (nI i)] 43 [] := by
  intro z
  induction z with
  | zero =>
    intro i h0 hz
    exact absurd hz (by omega)
  | succ z ih =>
    intro i h0 hz
    refine aw_iload dX2_take_43 rfl ?_
    refine aw_aload_n dX2_take_45 rfl ?_
    refine aw_getR dX2_take_46 flX2_18 hC.o hC.p0 ?_
    refine aw_getIv (v := nI m) dX2_take_49 flX2_28 hC.q0.o hm ?_
    refine aw_geN (t := 80) dX2_take_52 (by decide) (by omega) (by omega) (fun h1 => ?_) (fun h1 => ?_)
    · skip
      refine aw_aload_n dX2_take_80 rfl ?_
      refine aw_getR dX2_take_81 flX2_12 hC.o hC.p1 ?_
      refine aw_aload_n dX2_take_84 rfl ?_
      refine aw_iload_n dX2_take_85 rfl ?_
      refine aw_iload_n dX2_take_86 rfl ?_
      refine aw_pc (pc2 := 87) rfl ?_
      refine aw_aload_n dX2_take_87 rfl ?_
      refine aw_getR dX2_take_88 flX2_18 hC.o hC.p0 ?_
      refine aw_getIv (v := nI m) dX2_take_91 flX2_28 hC.q0.o hm ?_
      refine aw_iaddN dX2_take_94 ?_
      refine aw_cvL (As := [_, _]) (d' := d - 1) dX2_take_95 lkX2_66 hA.o (by omega) rfl rfl (Nat.le_of_ble_eq_true rfl) ⟨Nat.le_refl _, Nat.le_refl _⟩ (tX5_at hA hk (by omega) ?_)
      refine aw_toL (by first | rw [aw_wr_off _ _ (by omega), aw_wr_off _ _ (by omega)] | rw [aw_wr_off _ _ (by omega)]) ?_
      refine aw_putJ dX2_take_98 fwX2_56 hC.q1.o rfl ?_
      refine aw_pc (pc2 := 101) rfl ?_
      have e1 : i = m := by omega
      subst e1
      exact aw_vret dX2_take_101 rfl (hQ) (Nat.zero_le _) (Nat.zero_le _)
    · skip
      refine aw_aload_n dX2_take_55 rfl ?_
      refine aw_getR dX2_take_56 flX2_12 hC.o hC.p1 ?_
      refine aw_getR dX2_take_59 flX2_53 hC.q1.o hC.q1.p1 ?_
      refine aw_iload dX2_take_62 rfl ?_
      refine aw_aload_n dX2_take_64 rfl ?_
      refine aw_pc (pc2 := 65) rfl ?_
      refine aw_iload_n dX2_take_65 rfl ?_
      refine aw_iload_n dX2_take_66 rfl ?_
      refine aw_iload dX2_take_67 rfl ?_
      refine aw_iaddN dX2_take_69 ?_
      refine aw_cvL (As := [_, _]) (d' := d - 1) dX2_take_70 lkX2_66 hA.o (by omega) rfl rfl (Nat.le_of_ble_eq_true rfl) ⟨Nat.le_refl _, Nat.le_refl _⟩ (tX5_at hA hk (by omega) ?_)
      refine aw_toL (by first | rw [aw_wr_off _ _ (by omega), aw_wr_off _ _ (by omega)] | rw [aw_wr_off _ _ (by omega)]) ?_
      refine aw_last dX2_take_73 hC.q1.s1 rfl (by omega) rfl ?_
      refine aw_pc (pc2 := 74) rfl ?_
      refine aw_iincN dX2_take_74 rfl (by decide) ?_
      refine aw_lv (lv2 := [.ref _, .ref _, .int _, .int _, .int _]) rfl ?_
      refine aw_goto (t := 43) dX2_take_77 (by decide) ?_
      refine aw_toM rfl (aw_wr_s0 (aw_wr J (s + 2) 0 n (fun i => J (a + 3) (k * 12 + i))) (s + 3) i (fun l => J (a + 3) (k * 12 + (n + l)))) ?_
      exact ih (i + 1) (by omega) (by omega)
theorem lX2_take1 {G : aw_G} {d : Nat} {Ω : aw_O} {I : aw_MI} {J : aw_MJ} {Q : aw_O → aw_MI → aw_MJ → Prop} {s c n m a k : Nat} (hC : aw_cert Ω s c) (hn : I c 0 = nI n) (hn3 : n ≤ 3) (hm : I c 2 = nI m) (hm6 : m ≤ 6) (hA : aw_sheets Ω a) (hk : k < 4) (hsa : a + 3 < s) (hd : 1 ≤ d) (hQ : Q Ω I (aw_up (aw_wr (aw_wr J (s + 2) 0 n (fun i => J (a + 3) (k * 12 + i))) (s + 3) 0 m (fun l => J (a + 3) (k * 12 + (n + l)))) (s + 1) 2 (J (a + 3) (k * 12 + (n + m))))) : ∀ (z i : Nat), i ≤ n → n - i < z → AW G MX2_take (aw_nx Ω) d 0 0 (aw_QV Q) Ω I (aw_wr J (s + 2) 0 i (fun i => J (a + 3) (k * 12 + i))) 0 0 [.ref (aw_ad G s), .ref (aw_ad G a), .int (nI k), .int (nI n), .int (nI i)] 11 [] := by
  intro z
  induction z with
  | zero =>
    intro i h0 hz
    exact absurd hz (by omega)
  | succ z ih =>
    intro i h0 hz
    refine aw_iload dX2_take_11 rfl ?_
    refine aw_iload_n dX2_take_13 rfl ?_
    refine aw_geN (t := 40) dX2_take_14 (by decide) (by omega) (by omega) (fun h1 => ?_) (fun h1 => ?_)
    · skip
      refine aw_iconst (v := nI 0) dX2_take_40 (by decide) ?_
      refine aw_istore dX2_take_41 (by decide) ?_
      refine aw_lv (lv2 := [.ref _, .ref _, .int _, .int _, .int _]) rfl ?_
      have e1 : i = n := by omega
      subst e1
      refine aw_toM rfl (aw_wr_0 _ (s + 3) 0 (fun l => J (a + 3) (k * 12 + (i + l)))) ?_
      exact lX2_take2 hC hn hn3 hm hm6 hA hk hsa hd hQ (m + 1) 0 (by omega) (by omega)
    · skip
      refine aw_aload_n dX2_take_17 rfl ?_
      refine aw_getR dX2_take_18 flX2_12 hC.o hC.p1 ?_
      refine aw_getR dX2_take_21 flX2_45 hC.q1.o hC.q1.p0 ?_
      refine aw_iload dX2_take_24 rfl ?_
      refine aw_aload_n dX2_take_26 rfl ?_
      refine aw_pc (pc2 := 27) rfl ?_
      refine aw_iload_n dX2_take_27 rfl ?_
      refine aw_iload dX2_take_28 rfl ?_
      refine aw_cvL (As := [_, _]) (d' := d - 1) dX2_take_30 lkX2_66 hA.o (by omega) rfl rfl (Nat.le_of_ble_eq_true rfl) ⟨Nat.le_refl _, Nat.le_refl _⟩ (tX5_at hA hk (by omega) ?_)
      refine aw_toL (by first | rw [aw_wr_off _ _ (by omega), aw_wr_off _ _ (by omega)] | rw [aw_wr_off _ _ (by omega)]) ?_
      refine aw_last dX2_take_33 hC.q1.s0 rfl (by omega) rfl ?_
      refine aw_iincN dX2_take_34 rfl (by decide) ?_
      refine aw_lv (lv2 := [.ref _, .ref _, .int _, .int _, .int _]) rfl ?_
      refine aw_goto (t := 11) dX2_take_37 (by decide) ?_
      refine aw_toM rfl (aw_wr_s0 J (s + 2) i (fun i => J (a + 3) (k * 12 + i))) ?_
      exact ih (i + 1) (by omega) (by omega)
theorem tX2_take {G : aw_G} {d : Nat} {Ω : aw_O} {I : aw_MI} {J : aw_MJ} {Q : aw_O → aw_MI → aw_MJ → Prop} {s c n m a k : Nat} (hC : aw_cert Ω s c) (hn : I c 0 = nI n) (hn3 : n ≤ 3) (hm : I c 2 = nI m) (hm6 : m ≤ 6) (hA : aw_sheets Ω a) (hk : k < 4) (hsa : a + 3 < s) (hd : 1 ≤ d) (hQ : Q Ω I (aw_up (aw_wr (aw_wr J (s + 2) 0 n (fun i => J (a + 3) (k * 12 + i))) (s + 3) 0 m (fun l => J (a + 3) (k * 12 + (n + l)))) (s + 1) 2 (J (a + 3) (k * 12 + (n + m))))) : aw_Call G MX2_take d 0 0 [.ref (aw_ad G s), .ref (aw_ad G a), .int (nI k)] Ω I J (aw_QV Q) := by
  refine aw_enter (by decide +kernel) rfl (Nat.le_of_ble_eq_true rfl) ?_
  show AW G MX2_take (aw_nx Ω) d 0 0 (aw_QV Q) Ω I J 0 0 [.ref (aw_ad G s), .ref (aw_ad G a), .int (nI k), .null, .null] 0 []
  refine aw_aload_n dX2_take_0 rfl ?_
  refine aw_getR dX2_take_1 flX2_18 hC.o hC.p0 ?_
  refine aw_getIv (v := nI n) dX2_take_4 flX2_22 hC.q0.o hn ?_
  refine aw_istore_n dX2_take_7 (by decide) ?_
  refine aw_lv (lv2 := [.ref _, .ref _, .int _, .int _, .null]) rfl ?_
  refine aw_iconst (v := nI 0) dX2_take_8 (by decide) ?_
  refine aw_pc (pc2 := 9) rfl ?_
  refine aw_istore dX2_take_9 (by decide) ?_
  refine aw_lv (lv2 := [.ref _, .ref _, .int _, .int _, .int _]) rfl ?_
  refine aw_toM rfl (aw_wr_0 J (s + 2) 0 (fun i => J (a + 3) (k * 12 + i))) ?_
  exact lX2_take1 hC hn hn3 hm hm6 hA hk hsa hd hQ (n + 1) 0 (by omega) (by omega)

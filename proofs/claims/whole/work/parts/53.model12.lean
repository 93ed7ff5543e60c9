/-! THE REFERENCE: certificates -/
def rp_ab (f : Nat → Bool) : Nat → Int32
  | 0 => nI 1
  | i + 1 => rp_ab f i &&& (if f i = true then nI 1 else nI 0)
theorem rp_ab01 (f : Nat → Bool) : ∀ i, rp_ab f i = 0 ∨ rp_ab f i = 1
  | 0 => Or.inr rfl
  | i + 1 => by
    unfold rp_ab
    rcases rp_ab01 f i with h | h <;> rw [h] <;> by_cases e : f i = true
    · rw [if_pos e]; exact Or.inl (by decide)
    · rw [if_neg e]; exact Or.inl (by decide)
    · rw [if_pos e]; exact Or.inr (by decide)
    · rw [if_neg e]; exact Or.inl (by decide)
def rp_bal (I : aw_MI) (J : aw_MJ) (n m i : Nat) : Int64 := sp_s1 (sp_s1 ((I 67 i).toInt64 * J 65 18) (fun j => I 66 (3 * i + j)) (J 73) n) (fun l => rp_row I n l i) (J 74) m
def rq_bal (I : aw_MI) (J : aw_MJ) (n m i : Nat) : Bool := decide (rp_bal I J n m i = 0)

theorem lX8_isStill3 {G : aw_G} {d : Nat} {Ω : aw_O} {I : aw_MI} {J : aw_MJ} {Q : Int32 → aw_O → aw_MI → aw_MJ → Prop} {n m i : Nat} {v : Int32} (hM : aw_model Ω 65) (hn : I 65 0 = nI n) (hn3 : n ≤ 3) (hm : I 65 4 = nI m) (hm6 : m ≤ 6) (hi : i < n) (hd : 1 ≤ d) (kk : AW G MX8_isStill (aw_nx Ω) d 0 0 (aw_QI Q) Ω I J 0 0 [.ref (aw_ad G 65), .int v, .int (nI i), .long (rp_bal I J n m i), .null, .null] 103 []) : ∀ (z j : Nat), j ≤ m → m - j < z → AW G MX8_isStill (aw_nx Ω) d 0 0 (aw_QI Q) Ω I J 0 0 [.ref (aw_ad G 65), .int v, .int (nI i), .long (sp_s1 (sp_s1 ((I 67 i).toInt64 * J 65 18) (fun j => I 66 (3 * i + j)) (J 73) n) (fun l => rp_row I n l i) (J 74) j), .null, .int (nI j)] 69 [] := by
  intro z
  induction z with
  | zero =>
    intro j h0 hz
    exact absurd hz (by omega)
  | succ z ih =>
    intro j h0 hz
    refine aw_iload dX8_isStill_69 rfl ?_
    refine aw_aload_n dX8_isStill_71 rfl ?_
    refine aw_getIv (v := nI m) dX8_isStill_72 flX8_88 hM.o hm ?_
    refine aw_geN (t := 103) dX8_isStill_75 (by decide) (by omega) (by omega) (fun h1 => ?_) (fun h1 => ?_)
    · skip
      rw [show j = m from by omega]
      refine aw_frg 5 ?_
      exact kk
    · skip
      refine aw_lload_n dX8_isStill_78 rfl ?_
      refine aw_aload_n dX8_isStill_79 rfl ?_
      refine aw_iload dX8_isStill_80 rfl ?_
      refine aw_iload_n dX8_isStill_82 rfl ?_
      refine aw_cvI (As := [_, _]) (d' := d - 1) dX8_isStill_83 lkX8_129 hM.o (by omega) rfl rfl (Nat.le_of_ble_eq_true rfl) ⟨Nat.le_refl _, Nat.le_refl _⟩ (tX8_row hM hn hn3 (by omega) (by omega) ?_)
      refine aw_pc (pc2 := 86) rfl ?_
      refine aw_i2l dX8_isStill_86 ?_
      refine aw_aload_n dX8_isStill_87 rfl ?_
      refine aw_getR dX8_isStill_88 flX8_39 hM.o hM.p17 ?_
      refine aw_iload dX8_isStill_91 rfl ?_
      refine aw_lald dX8_isStill_93 hM.s17 rfl (by omega) ?_
      refine aw_lmul dX8_isStill_94 ?_
      refine aw_pc (pc2 := 95) rfl ?_
      refine aw_ladd dX8_isStill_95 ?_
      refine aw_lstore_n dX8_isStill_96 (by decide) ?_
      refine aw_lv (lv2 := [.ref _, .int _, .int _, .long _, .null, .int _]) rfl ?_
      refine aw_iincN dX8_isStill_97 rfl (by decide) ?_
      refine aw_lv (lv2 := [.ref _, .int _, .int _, .long _, .null, .int _]) rfl ?_
      refine aw_goto (t := 69) dX8_isStill_100 (by decide) ?_
      exact ih (j + 1) (by omega) (by omega)
theorem lX8_isStill2 {G : aw_G} {d : Nat} {Ω : aw_O} {I : aw_MI} {J : aw_MJ} {Q : Int32 → aw_O → aw_MI → aw_MJ → Prop} {n m i : Nat} {v : Int32} (hM : aw_model Ω 65) (hn : I 65 0 = nI n) (hn3 : n ≤ 3) (hm : I 65 4 = nI m) (hm6 : m ≤ 6) (hi : i < n) (hd : 1 ≤ d) (kk : AW G MX8_isStill (aw_nx Ω) d 0 0 (aw_QI Q) Ω I J 0 0 [.ref (aw_ad G 65), .int v, .int (nI i), .long (rp_bal I J n m i), .null, .null] 103 []) : ∀ (z j : Nat), j ≤ n → n - j < z → AW G MX8_isStill (aw_nx Ω) d 0 0 (aw_QI Q) Ω I J 0 0 [.ref (aw_ad G 65), .int v, .int (nI i), .long (sp_s1 ((I 67 i).toInt64 * J 65 18) (fun j => I 66 (3 * i + j)) (J 73) j), .null, .int (nI j)] 28 [] := by
  intro z
  induction z with
  | zero =>
    intro j h0 hz
    exact absurd hz (by omega)
  | succ z ih =>
    intro j h0 hz
    refine aw_iload dX8_isStill_28 rfl ?_
    refine aw_aload_n dX8_isStill_30 rfl ?_
    refine aw_getIv (v := nI n) dX8_isStill_31 flX8_7 hM.o hn ?_
    refine aw_geN (t := 66) dX8_isStill_34 (by decide) (by omega) (by omega) (fun h1 => ?_) (fun h1 => ?_)
    · skip
      refine aw_iconst (v := nI 0) dX8_isStill_66 (by decide) ?_
      refine aw_istore dX8_isStill_67 (by decide) ?_
      refine aw_lv (lv2 := [.ref _, .int _, .int _, .long _, .null, .int _]) rfl ?_
      rw [show j = n from by omega]
      exact lX8_isStill3 hM hn hn3 hm hm6 hi hd kk (m + 1) 0 (by omega) (by omega)
    · skip
      refine aw_lload_n dX8_isStill_37 rfl ?_
      refine aw_aload_n dX8_isStill_38 rfl ?_
      refine aw_getR dX8_isStill_39 flX8_13 hM.o hM.p1 ?_
      refine aw_iconst (v := nI 3) dX8_isStill_42 (by decide) ?_
      refine aw_iload_n dX8_isStill_43 rfl ?_
      refine aw_pc (pc2 := 44) rfl ?_
      refine aw_imulN dX8_isStill_44 ?_
      refine aw_iload dX8_isStill_45 rfl ?_
      refine aw_iaddN dX8_isStill_47 ?_
      refine aw_iald dX8_isStill_48 hM.s1 rfl (by omega) ?_
      refine aw_i2l dX8_isStill_49 ?_
      refine aw_aload_n dX8_isStill_50 rfl ?_
      refine aw_pc (pc2 := 51) rfl ?_
      refine aw_getR dX8_isStill_51 flX8_36 hM.o hM.p16 ?_
      refine aw_iload dX8_isStill_54 rfl ?_
      refine aw_lald dX8_isStill_56 hM.s16 rfl (by omega) ?_
      refine aw_lmul dX8_isStill_57 ?_
      refine aw_ladd dX8_isStill_58 ?_
      refine aw_lstore_n dX8_isStill_59 (by decide) ?_
      refine aw_lv (lv2 := [.ref _, .int _, .int _, .long _, .null, .int _]) rfl ?_
      refine aw_pc (pc2 := 60) rfl ?_
      refine aw_iincN dX8_isStill_60 rfl (by decide) ?_
      refine aw_lv (lv2 := [.ref _, .int _, .int _, .long _, .null, .int _]) rfl ?_
      refine aw_goto (t := 28) dX8_isStill_63 (by decide) ?_
      exact ih (j + 1) (by omega) (by omega)
theorem lX8_isStill4 {G : aw_G} {d : Nat} {Ω : aw_O} {I : aw_MI} {J : aw_MJ} {Q : Int32 → aw_O → aw_MI → aw_MJ → Prop} {n m i : Nat} (hM : aw_model Ω 65) (hn : I 65 0 = nI n) (hn3 : n ≤ 3) (hm : I 65 4 = nI m) (hm6 : m ≤ 6) (hi : i < n) (hd : 1 ≤ d) (kk : AW G MX8_isStill (aw_nx Ω) d 0 0 (aw_QI Q) Ω I J 0 0 [.ref (aw_ad G 65), .int (rp_ab (rq_bal I J n m) (i + 1)), .int (nI (i + 1)), .null, .null, .null] 4 []) : AW G MX8_isStill (aw_nx Ω) d 0 0 (aw_QI Q) Ω I J 0 0 [.ref (aw_ad G 65), .int (rp_ab (rq_bal I J n m) i), .int (nI i), .long (rp_bal I J n m i), .null, .null] 103 [] := by
  refine aw_iload_n dX8_isStill_103 rfl ?_
  refine aw_lload_n dX8_isStill_104 rfl ?_
  refine aw_lconst (v := 0) dX8_isStill_105 (by decide) ?_
  refine aw_lcmp dX8_isStill_106 ?_
  refine aw_if_ne (t := 114) dX8_isStill_107 (by decide) (fun h1 => ?_) (fun h1 => ?_)
  · skip
    refine aw_iconst (v := nI 0) dX8_isStill_114 (by decide) ?_
    refine aw_iand dX8_isStill_115 ?_
    refine aw_istore_n dX8_isStill_116 (by decide) ?_
    refine aw_lv (lv2 := [.ref _, .int _, .int _, .long _, .null, .null]) rfl ?_
    refine aw_iincN dX8_isStill_117 rfl (by decide) ?_
    refine aw_lv (lv2 := [.ref _, .int _, .int _, .long _, .null, .null]) rfl ?_
    refine aw_goto (t := 4) dX8_isStill_120 (by decide) ?_
    try simp only [lcmpE, lcmpL, lcmpG, lcmpLE, lcmpGT, nrm_le, nrm_le64, Classical.not_not] at h1
    refine aw_frg 3 ?_
    rw [rp_ab, if_neg (show ¬ rq_bal I J n m i = true from fun q => h1 (of_decide_eq_true q))] at kk
    exact kk
  · skip
    refine aw_iconst (v := nI 1) dX8_isStill_110 (by decide) ?_
    refine aw_goto (t := 115) dX8_isStill_111 (by decide) ?_
    refine aw_iand dX8_isStill_115 ?_
    refine aw_istore_n dX8_isStill_116 (by decide) ?_
    refine aw_lv (lv2 := [.ref _, .int _, .int _, .long _, .null, .null]) rfl ?_
    refine aw_iincN dX8_isStill_117 rfl (by decide) ?_
    refine aw_lv (lv2 := [.ref _, .int _, .int _, .long _, .null, .null]) rfl ?_
    refine aw_goto (t := 4) dX8_isStill_120 (by decide) ?_
    try simp only [lcmpE, lcmpL, lcmpG, lcmpLE, lcmpGT, nrm_le, nrm_le64, Classical.not_not] at h1
    refine aw_frg 3 ?_
    rw [rp_ab, if_pos (show rq_bal I J n m i = true from decide_eq_true h1)] at kk
    exact kk
theorem lX8_isStill1 {G : aw_G} {d : Nat} {Ω : aw_O} {I : aw_MI} {J : aw_MJ} {Q : Int32 → aw_O → aw_MI → aw_MJ → Prop} {n m : Nat} (hM : aw_model Ω 65) (hn : I 65 0 = nI n) (hn3 : n ≤ 3) (hm : I 65 4 = nI m) (hm6 : m ≤ 6) (hd : 1 ≤ d) (hQ : Q (rp_ab (rq_bal I J n m) n) Ω I J) : ∀ (z i : Nat), i ≤ n → n - i < z → AW G MX8_isStill (aw_nx Ω) d 0 0 (aw_QI Q) Ω I J 0 0 [.ref (aw_ad G 65), .int (rp_ab (rq_bal I J n m) i), .int (nI i), .null, .null, .null] 4 [] := by
  intro z
  induction z with
  | zero =>
    intro i h0 hz
    exact absurd hz (by omega)
  | succ z ih =>
    intro i h0 hz
    refine aw_iload_n dX8_isStill_4 rfl ?_
    refine aw_aload_n dX8_isStill_5 rfl ?_
    refine aw_getIv (v := nI n) dX8_isStill_6 flX8_7 hM.o hn ?_
    refine aw_geN (t := 123) dX8_isStill_9 (by decide) (by omega) (by omega) (fun h1 => ?_) (fun h1 => ?_)
    · skip
      refine aw_iload_n dX8_isStill_123 rfl ?_
      exact aw_zret dX8_isStill_124 rfl (rp_ab01 _ _) (by rw [show i = n from by omega]; exact hQ) (Nat.zero_le _) (Nat.zero_le _)
    · skip
      refine aw_aload_n dX8_isStill_12 rfl ?_
      refine aw_getR dX8_isStill_13 flX8_17 hM.o hM.p2 ?_
      refine aw_iload_n dX8_isStill_16 rfl ?_
      refine aw_iald dX8_isStill_17 hM.s2 rfl (by omega) ?_
      refine aw_i2l dX8_isStill_18 ?_
      refine aw_pc (pc2 := 19) rfl ?_
      refine aw_aload_n dX8_isStill_19 rfl ?_
      refine aw_getJ dX8_isStill_20 flX8_161 hM.o ?_
      refine aw_lmul dX8_isStill_23 ?_
      refine aw_lstore_n dX8_isStill_24 (by decide) ?_
      refine aw_lv (lv2 := [.ref _, .int _, .int _, .long _, .null, .null]) rfl ?_
      refine aw_iconst (v := nI 0) dX8_isStill_25 (by decide) ?_
      refine aw_istore dX8_isStill_26 (by decide) ?_
      refine aw_lv (lv2 := [.ref _, .int _, .int _, .long _, .null, .int _]) rfl ?_
      exact lX8_isStill2 hM hn hn3 hm hm6 (by omega) hd (lX8_isStill4 hM hn hn3 hm hm6 (by omega) hd (ih (i + 1) (by omega) (by omega))) (n + 1) 0 (by omega) (by omega)
theorem tX8_isStill {G : aw_G} {d : Nat} {Ω : aw_O} {I : aw_MI} {J : aw_MJ} {Q : Int32 → aw_O → aw_MI → aw_MJ → Prop} {n m : Nat} (hM : aw_model Ω 65) (hn : I 65 0 = nI n) (hn3 : n ≤ 3) (hm : I 65 4 = nI m) (hm6 : m ≤ 6) (hd : 1 ≤ d) (hQ : Q (rp_ab (rq_bal I J n m) n) Ω I J) : aw_Call G MX8_isStill d 0 0 [.ref (aw_ad G 65)] Ω I J (aw_QI Q) := by
  refine aw_enter (by decide +kernel) rfl (Nat.le_of_ble_eq_true rfl) ?_
  show AW G MX8_isStill (aw_nx Ω) d 0 0 (aw_QI Q) Ω I J 0 0 [.ref (aw_ad G 65), .null, .null, .null, .null, .null] 0 []
  refine aw_iconst (v := nI 1) dX8_isStill_0 (by decide) ?_
  refine aw_istore_n dX8_isStill_1 (by decide) ?_
  refine aw_lv (lv2 := [.ref _, .int _, .null, .null, .null, .null]) rfl ?_
  refine aw_iconst (v := nI 0) dX8_isStill_2 (by decide) ?_
  refine aw_istore_n dX8_isStill_3 (by decide) ?_
  refine aw_lv (lv2 := [.ref _, .int _, .int _, .null, .null, .null]) rfl ?_
  exact lX8_isStill1 hM hn hn3 hm hm6 hd hQ (n + 1) 0 (by omega) (by omega)
def rq_sg (I : aw_MI) (J : aw_MJ) (l : Nat) : Bool := decide (¬ sp_on (I 68 (6 * l)) = 0 ∨ ¬ J 74 l < 0)
def rq_mt (I : aw_MI) (J : aw_MJ) (n l : Nat) : Bool := decide (J 74 l = 0 ∨ rp_slk I J n l = 0)
def rp_fw (I : aw_MI) (J : aw_MJ) (n m : Nat) : Int32 := if J 65 18 < 1 then nI 1 else if rp_ab (rq_bal I J n m) n = 0 then nI 2 else if rp_ab (rq_sg I J) m = 0 then nI 3 else if sp_or (rp_hb I J n) m = sp_all m then (if rp_ab (rq_mt I J n) m = 0 then nI 5 else nI 0) else nI 4
def rp_far (x : Nat → Int64) : Nat → Int32
  | 0 => nI 0
  | k + 1 => rp_far x k ||| (if sp_rng (x k) (-1000000000000) 1000000000000 = 0 then nI 1 else nI 0)
theorem lX8_check5 {G : aw_G} {d : Nat} {Ω : aw_O} {I : aw_MI} {J : aw_MJ} {Q : Int32 → aw_O → aw_MI → aw_MJ → Prop} {n m s : Nat} (hM : aw_model Ω 65) (hn : I 65 0 = nI n) (hn3 : n ≤ 3) (hm : I 65 4 = nI m) (hm6 : m ≤ 6) (hs : s < 4) (hd : 5 ≤ d) {v : Int32} (hQ : Q (rp_fw I J n m) Ω I J) : ∀ (z l : Nat), l ≤ m → m - l < z → AW G MX8_check (aw_nx Ω) d 0 0 (aw_QI Q) Ω I J 0 0 [.ref (aw_ad G 65), .int (nI s), .int v, .int (rp_ab (rq_sg I J) l), .int (rp_ab (rq_mt I J n) l), .int (nI l)] 215 [] := by
  intro z
  induction z with
  | zero =>
    intro l h0 hz
    exact absurd hz (by omega)
  | succ z ih =>
    intro l h0 hz
    refine aw_iload dX8_check_215 rfl ?_
    refine aw_aload_n dX8_check_217 rfl ?_
    refine aw_getIv (v := nI m) dX8_check_218 flX8_88 hM.o hm ?_
    refine aw_geN (t := 292) dX8_check_221 (by decide) (by omega) (by omega) (fun h1 => ?_) (fun h1 => ?_)
    · skip
      refine aw_aload_n dX8_check_292 rfl ?_
      refine aw_getJ dX8_check_293 flX8_161 hM.o ?_
      refine aw_lconst (v := 1) dX8_check_296 (by decide) ?_
      refine aw_lcmp dX8_check_297 ?_
      refine aw_if_ge (t := 305) dX8_check_298 (by decide) (fun h2 => ?_) (fun h2 => ?_)
      · skip
        refine aw_aload_n dX8_check_305 rfl ?_
        refine aw_cvI (As := []) (d' := d - 1) dX8_check_306 lkX8_262 hM.o (by omega) rfl rfl (Nat.le_of_ble_eq_true rfl) ⟨Nat.le_refl _, Nat.le_refl _⟩ (tX8_isStill hM hn hn3 hm hm6 (by omega) ?_)
        refine aw_if_ne (t := 316) dX8_check_309 (by decide) (fun h3 => ?_) (fun h3 => ?_)
        · skip
          refine aw_iload_n dX8_check_316 rfl ?_
          refine aw_if_ne (t := 324) dX8_check_317 (by decide) (fun h4 => ?_) (fun h4 => ?_)
          · skip
            refine aw_aload_n dX8_check_324 rfl ?_
            refine aw_cvI (As := []) (d' := d - 1) dX8_check_325 lkX8_210 hM.o (by omega) rfl rfl (Nat.le_of_ble_eq_true rfl) ⟨Nat.le_refl _, Nat.le_refl _⟩ (tX8_heldNow hM hn hn3 hm hm6 (by omega) ?_)
            refine aw_aload_n dX8_check_328 rfl ?_
            refine aw_cvI (As := []) (d' := d - 1) dX8_check_329 lkX8_220 hM.o (by omega) rfl rfl (Nat.le_of_ble_eq_true rfl) ⟨Nat.le_refl _, Nat.le_refl _⟩ (tX8_all hM hm ?_)
            refine aw_icmp_eq (t := 339) dX8_check_332 (by decide) (fun h5 => ?_) (fun h5 => ?_)
            · skip
              refine aw_iload dX8_check_339 rfl ?_
              refine aw_if_ne (t := 348) dX8_check_341 (by decide) (fun h6 => ?_) (fun h6 => ?_)
              · skip
                refine aw_iconst (v := nI 0) dX8_check_348 (by decide) ?_
                try simp only [lcmpE, lcmpL, lcmpG, lcmpLE, lcmpGT, nrm_le, nrm_le64, Classical.not_not] at h2
                try simp only [lcmpE, lcmpL, lcmpG, lcmpLE, lcmpGT, nrm_le, nrm_le64, Classical.not_not] at h3
                try simp only [lcmpE, lcmpL, lcmpG, lcmpLE, lcmpGT, nrm_le, nrm_le64, Classical.not_not] at h4
                try simp only [lcmpE, lcmpL, lcmpG, lcmpLE, lcmpGT, nrm_le, nrm_le64, Classical.not_not] at h5
                try simp only [lcmpE, lcmpL, lcmpG, lcmpLE, lcmpGT, nrm_le, nrm_le64, Classical.not_not] at h6
                have el : l = m := by omega
                rw [rp_fw] at hQ
                exact aw_iret dX8_check_349 rfl ((by rw [if_neg h2, if_neg h3, if_neg (by rw [← el]; exact h4), if_pos h5, if_neg (by rw [← el]; exact h6)] at hQ; exact hQ)) (Nat.zero_le _) (Nat.zero_le _)
              · skip
                refine aw_iconst (v := nI 5) dX8_check_344 (by decide) ?_
                refine aw_goto (t := 349) dX8_check_345 (by decide) ?_
                try simp only [lcmpE, lcmpL, lcmpG, lcmpLE, lcmpGT, nrm_le, nrm_le64, Classical.not_not] at h2
                try simp only [lcmpE, lcmpL, lcmpG, lcmpLE, lcmpGT, nrm_le, nrm_le64, Classical.not_not] at h3
                try simp only [lcmpE, lcmpL, lcmpG, lcmpLE, lcmpGT, nrm_le, nrm_le64, Classical.not_not] at h4
                try simp only [lcmpE, lcmpL, lcmpG, lcmpLE, lcmpGT, nrm_le, nrm_le64, Classical.not_not] at h5
                try simp only [lcmpE, lcmpL, lcmpG, lcmpLE, lcmpGT, nrm_le, nrm_le64, Classical.not_not] at h6
                have el : l = m := by omega
                rw [rp_fw] at hQ
                exact aw_iret dX8_check_349 rfl ((by rw [el] at h6; rw [if_neg h2, if_neg h3, if_neg (by rw [← el]; exact h4), if_pos h5, if_pos h6] at hQ; exact hQ)) (Nat.zero_le _) (Nat.zero_le _)
            · skip
              refine aw_iconst (v := nI 4) dX8_check_335 (by decide) ?_
              refine aw_goto (t := 349) dX8_check_336 (by decide) ?_
              try simp only [lcmpE, lcmpL, lcmpG, lcmpLE, lcmpGT, nrm_le, nrm_le64, Classical.not_not] at h2
              try simp only [lcmpE, lcmpL, lcmpG, lcmpLE, lcmpGT, nrm_le, nrm_le64, Classical.not_not] at h3
              try simp only [lcmpE, lcmpL, lcmpG, lcmpLE, lcmpGT, nrm_le, nrm_le64, Classical.not_not] at h4
              try simp only [lcmpE, lcmpL, lcmpG, lcmpLE, lcmpGT, nrm_le, nrm_le64, Classical.not_not] at h5
              have el : l = m := by omega
              rw [rp_fw] at hQ
              exact aw_iret dX8_check_349 rfl ((by rw [if_neg h2, if_neg h3, if_neg (by rw [← el]; exact h4), if_neg h5] at hQ; exact hQ)) (Nat.zero_le _) (Nat.zero_le _)
          · skip
            refine aw_iconst (v := nI 3) dX8_check_320 (by decide) ?_
            refine aw_goto (t := 349) dX8_check_321 (by decide) ?_
            try simp only [lcmpE, lcmpL, lcmpG, lcmpLE, lcmpGT, nrm_le, nrm_le64, Classical.not_not] at h2
            try simp only [lcmpE, lcmpL, lcmpG, lcmpLE, lcmpGT, nrm_le, nrm_le64, Classical.not_not] at h3
            try simp only [lcmpE, lcmpL, lcmpG, lcmpLE, lcmpGT, nrm_le, nrm_le64, Classical.not_not] at h4
            have el : l = m := by omega
            rw [rp_fw] at hQ
            exact aw_iret dX8_check_349 rfl ((by rw [el] at h4; rw [if_neg h2, if_neg h3, if_pos h4] at hQ; exact hQ)) (Nat.zero_le _) (Nat.zero_le _)
        · skip
          refine aw_iconst (v := nI 2) dX8_check_312 (by decide) ?_
          refine aw_goto (t := 349) dX8_check_313 (by decide) ?_
          try simp only [lcmpE, lcmpL, lcmpG, lcmpLE, lcmpGT, nrm_le, nrm_le64, Classical.not_not] at h2
          try simp only [lcmpE, lcmpL, lcmpG, lcmpLE, lcmpGT, nrm_le, nrm_le64, Classical.not_not] at h3
          have el : l = m := by omega
          rw [rp_fw] at hQ
          exact aw_iret dX8_check_349 rfl ((by rw [if_neg h2, if_pos h3] at hQ; exact hQ)) (Nat.zero_le _) (Nat.zero_le _)
      · skip
        refine aw_iconst (v := nI 1) dX8_check_301 (by decide) ?_
        refine aw_goto (t := 349) dX8_check_302 (by decide) ?_
        try simp only [lcmpE, lcmpL, lcmpG, lcmpLE, lcmpGT, nrm_le, nrm_le64, Classical.not_not] at h2
        have el : l = m := by omega
        rw [rp_fw] at hQ
        exact aw_iret dX8_check_349 rfl ((by rw [if_pos h2] at hQ; exact hQ)) (Nat.zero_le _) (Nat.zero_le _)
    · skip
      refine aw_iload_n dX8_check_224 rfl ?_
      refine aw_aload_n dX8_check_225 rfl ?_
      refine aw_iload dX8_check_226 rfl ?_
      refine aw_cvI (As := [_]) (d' := d - 1) dX8_check_228 lkX8_175 hM.o (by omega) rfl rfl (Nat.le_of_ble_eq_true rfl) ⟨Nat.le_refl _, Nat.le_refl _⟩ (tX8_isOn hM (by omega) ?_)
      refine aw_if_ne (t := 246) dX8_check_231 (by decide) (fun h7 => ?_) (fun h7 => ?_)
      · skip
        refine aw_iconst (v := nI 1) dX8_check_246 (by decide) ?_
        refine aw_goto (t := 251) dX8_check_247 (by decide) ?_
        refine aw_iand dX8_check_251 ?_
        refine aw_istore_n dX8_check_252 (by decide) ?_
        refine aw_lv (lv2 := [.ref _, .int _, .int _, .int _, .int _, .int _]) rfl ?_
        refine aw_iload dX8_check_253 rfl ?_
        refine aw_aload_n dX8_check_255 rfl ?_
        refine aw_getR dX8_check_256 flX8_39 hM.o hM.p17 ?_
        refine aw_pc (pc2 := 259) rfl ?_
        refine aw_iload dX8_check_259 rfl ?_
        refine aw_lald dX8_check_261 hM.s17 rfl (by omega) ?_
        refine aw_lconst (v := 0) dX8_check_262 (by decide) ?_
        refine aw_lcmp dX8_check_263 ?_
        refine aw_if_eq (t := 278) dX8_check_264 (by decide) (fun h8 => ?_) (fun h8 => ?_)
        · skip
          refine aw_iconst (v := nI 1) dX8_check_278 (by decide) ?_
          refine aw_goto (t := 283) dX8_check_279 (by decide) ?_
          refine aw_iand dX8_check_283 ?_
          refine aw_istore dX8_check_284 (by decide) ?_
          refine aw_lv (lv2 := [.ref _, .int _, .int _, .int _, .int _, .int _]) rfl ?_
          refine aw_iincN dX8_check_286 rfl (by decide) ?_
          refine aw_lv (lv2 := [.ref _, .int _, .int _, .int _, .int _, .int _]) rfl ?_
          refine aw_goto (t := 215) dX8_check_289 (by decide) ?_
          try simp only [lcmpE, lcmpL, lcmpG, lcmpLE, lcmpGT, nrm_le, nrm_le64, Classical.not_not] at h7
          try simp only [lcmpE, lcmpL, lcmpG, lcmpLE, lcmpGT, nrm_le, nrm_le64, Classical.not_not] at h8
          have g1 : rp_ab (rq_sg I J) l &&& nI 1 = rp_ab (rq_sg I J) (l + 1) := by rw [rp_ab, if_pos (show rq_sg I J l = true from decide_eq_true (Or.inl h7))]
          have g2 : rp_ab (rq_mt I J n) l &&& nI 1 = rp_ab (rq_mt I J n) (l + 1) := by rw [rp_ab, if_pos (show rq_mt I J n l = true from decide_eq_true (Or.inl h8))]
          rw [g1, g2]
          exact ih (l + 1) (by omega) (by omega)
        · skip
          refine aw_aload_n dX8_check_267 rfl ?_
          refine aw_iload dX8_check_268 rfl ?_
          refine aw_cvL (As := [_]) (d' := d - 1) dX8_check_270 lkX8_172 hM.o (by omega) rfl rfl (Nat.le_of_ble_eq_true rfl) ⟨Nat.le_refl _, Nat.le_refl _⟩ (tX8_slackOf hM hn hn3 (by omega) (by omega) ?_)
          refine aw_lconst (v := 0) dX8_check_273 (by decide) ?_
          refine aw_lcmp dX8_check_274 ?_
          refine aw_pc (pc2 := 275) rfl ?_
          refine aw_if_ne (t := 282) dX8_check_275 (by decide) (fun h9 => ?_) (fun h9 => ?_)
          · skip
            refine aw_iconst (v := nI 0) dX8_check_282 (by decide) ?_
            refine aw_iand dX8_check_283 ?_
            refine aw_istore dX8_check_284 (by decide) ?_
            refine aw_lv (lv2 := [.ref _, .int _, .int _, .int _, .int _, .int _]) rfl ?_
            refine aw_iincN dX8_check_286 rfl (by decide) ?_
            refine aw_lv (lv2 := [.ref _, .int _, .int _, .int _, .int _, .int _]) rfl ?_
            refine aw_goto (t := 215) dX8_check_289 (by decide) ?_
            try simp only [lcmpE, lcmpL, lcmpG, lcmpLE, lcmpGT, nrm_le, nrm_le64, Classical.not_not] at h7
            try simp only [lcmpE, lcmpL, lcmpG, lcmpLE, lcmpGT, nrm_le, nrm_le64, Classical.not_not] at h8
            try simp only [lcmpE, lcmpL, lcmpG, lcmpLE, lcmpGT, nrm_le, nrm_le64, Classical.not_not] at h9
            have g1 : rp_ab (rq_sg I J) l &&& nI 1 = rp_ab (rq_sg I J) (l + 1) := by rw [rp_ab, if_pos (show rq_sg I J l = true from decide_eq_true (Or.inl h7))]
            have g2 : rp_ab (rq_mt I J n) l &&& nI 0 = rp_ab (rq_mt I J n) (l + 1) := by rw [rp_ab, if_neg (show ¬ rq_mt I J n l = true from fun q => (of_decide_eq_true q).elim h8 h9)]
            rw [g1, g2]
            exact ih (l + 1) (by omega) (by omega)
          · skip
            refine aw_iconst (v := nI 1) dX8_check_278 (by decide) ?_
            refine aw_goto (t := 283) dX8_check_279 (by decide) ?_
            refine aw_iand dX8_check_283 ?_
            refine aw_istore dX8_check_284 (by decide) ?_
            refine aw_lv (lv2 := [.ref _, .int _, .int _, .int _, .int _, .int _]) rfl ?_
            refine aw_iincN dX8_check_286 rfl (by decide) ?_
            refine aw_lv (lv2 := [.ref _, .int _, .int _, .int _, .int _, .int _]) rfl ?_
            refine aw_goto (t := 215) dX8_check_289 (by decide) ?_
            try simp only [lcmpE, lcmpL, lcmpG, lcmpLE, lcmpGT, nrm_le, nrm_le64, Classical.not_not] at h7
            try simp only [lcmpE, lcmpL, lcmpG, lcmpLE, lcmpGT, nrm_le, nrm_le64, Classical.not_not] at h8
            try simp only [lcmpE, lcmpL, lcmpG, lcmpLE, lcmpGT, nrm_le, nrm_le64, Classical.not_not] at h9
            have g1 : rp_ab (rq_sg I J) l &&& nI 1 = rp_ab (rq_sg I J) (l + 1) := by rw [rp_ab, if_pos (show rq_sg I J l = true from decide_eq_true (Or.inl h7))]
            have g2 : rp_ab (rq_mt I J n) l &&& nI 1 = rp_ab (rq_mt I J n) (l + 1) := by rw [rp_ab, if_pos (show rq_mt I J n l = true from decide_eq_true (Or.inr h9))]
            rw [g1, g2]
            exact ih (l + 1) (by omega) (by omega)
      · skip
        refine aw_aload_n dX8_check_234 rfl ?_
        refine aw_getR dX8_check_235 flX8_39 hM.o hM.p17 ?_
        refine aw_iload dX8_check_238 rfl ?_
        refine aw_lald dX8_check_240 hM.s17 rfl (by omega) ?_
        refine aw_lconst (v := 0) dX8_check_241 (by decide) ?_
        refine aw_pc (pc2 := 242) rfl ?_
        refine aw_lcmp dX8_check_242 ?_
        refine aw_if_lt (t := 250) dX8_check_243 (by decide) (fun h10 => ?_) (fun h10 => ?_)
        · skip
          refine aw_iconst (v := nI 0) dX8_check_250 (by decide) ?_
          refine aw_iand dX8_check_251 ?_
          refine aw_istore_n dX8_check_252 (by decide) ?_
          refine aw_lv (lv2 := [.ref _, .int _, .int _, .int _, .int _, .int _]) rfl ?_
          refine aw_iload dX8_check_253 rfl ?_
          refine aw_aload_n dX8_check_255 rfl ?_
          refine aw_pc (pc2 := 256) rfl ?_
          refine aw_getR dX8_check_256 flX8_39 hM.o hM.p17 ?_
          refine aw_iload dX8_check_259 rfl ?_
          refine aw_lald dX8_check_261 hM.s17 rfl (by omega) ?_
          refine aw_lconst (v := 0) dX8_check_262 (by decide) ?_
          refine aw_lcmp dX8_check_263 ?_
          refine aw_if_eq (t := 278) dX8_check_264 (by decide) (fun h11 => ?_) (fun h11 => ?_)
          · skip
            refine aw_iconst (v := nI 1) dX8_check_278 (by decide) ?_
            refine aw_goto (t := 283) dX8_check_279 (by decide) ?_
            refine aw_iand dX8_check_283 ?_
            refine aw_istore dX8_check_284 (by decide) ?_
            refine aw_lv (lv2 := [.ref _, .int _, .int _, .int _, .int _, .int _]) rfl ?_
            refine aw_iincN dX8_check_286 rfl (by decide) ?_
            refine aw_lv (lv2 := [.ref _, .int _, .int _, .int _, .int _, .int _]) rfl ?_
            refine aw_goto (t := 215) dX8_check_289 (by decide) ?_
            try simp only [lcmpE, lcmpL, lcmpG, lcmpLE, lcmpGT, nrm_le, nrm_le64, Classical.not_not] at h7
            try simp only [lcmpE, lcmpL, lcmpG, lcmpLE, lcmpGT, nrm_le, nrm_le64, Classical.not_not] at h10
            try simp only [lcmpE, lcmpL, lcmpG, lcmpLE, lcmpGT, nrm_le, nrm_le64, Classical.not_not] at h11
            have g1 : rp_ab (rq_sg I J) l &&& nI 0 = rp_ab (rq_sg I J) (l + 1) := by rw [rp_ab, if_neg (show ¬ rq_sg I J l = true from fun q => (of_decide_eq_true q).elim (fun q => q h7) (fun q => q h10))]
            have g2 : rp_ab (rq_mt I J n) l &&& nI 1 = rp_ab (rq_mt I J n) (l + 1) := by rw [rp_ab, if_pos (show rq_mt I J n l = true from decide_eq_true (Or.inl h11))]
            rw [g1, g2]
            exact ih (l + 1) (by omega) (by omega)
          · skip
            refine aw_aload_n dX8_check_267 rfl ?_
            refine aw_iload dX8_check_268 rfl ?_
            refine aw_cvL (As := [_]) (d' := d - 1) dX8_check_270 lkX8_172 hM.o (by omega) rfl rfl (Nat.le_of_ble_eq_true rfl) ⟨Nat.le_refl _, Nat.le_refl _⟩ (tX8_slackOf hM hn hn3 (by omega) (by omega) ?_)
            refine aw_lconst (v := 0) dX8_check_273 (by decide) ?_
            refine aw_lcmp dX8_check_274 ?_
            refine aw_pc (pc2 := 275) rfl ?_
            refine aw_if_ne (t := 282) dX8_check_275 (by decide) (fun h12 => ?_) (fun h12 => ?_)
            · skip
              refine aw_iconst (v := nI 0) dX8_check_282 (by decide) ?_
              refine aw_iand dX8_check_283 ?_
              refine aw_istore dX8_check_284 (by decide) ?_
              refine aw_lv (lv2 := [.ref _, .int _, .int _, .int _, .int _, .int _]) rfl ?_
              refine aw_iincN dX8_check_286 rfl (by decide) ?_
              refine aw_lv (lv2 := [.ref _, .int _, .int _, .int _, .int _, .int _]) rfl ?_
              refine aw_goto (t := 215) dX8_check_289 (by decide) ?_
              try simp only [lcmpE, lcmpL, lcmpG, lcmpLE, lcmpGT, nrm_le, nrm_le64, Classical.not_not] at h7
              try simp only [lcmpE, lcmpL, lcmpG, lcmpLE, lcmpGT, nrm_le, nrm_le64, Classical.not_not] at h10
              try simp only [lcmpE, lcmpL, lcmpG, lcmpLE, lcmpGT, nrm_le, nrm_le64, Classical.not_not] at h11
              try simp only [lcmpE, lcmpL, lcmpG, lcmpLE, lcmpGT, nrm_le, nrm_le64, Classical.not_not] at h12
              have g1 : rp_ab (rq_sg I J) l &&& nI 0 = rp_ab (rq_sg I J) (l + 1) := by rw [rp_ab, if_neg (show ¬ rq_sg I J l = true from fun q => (of_decide_eq_true q).elim (fun q => q h7) (fun q => q h10))]
              have g2 : rp_ab (rq_mt I J n) l &&& nI 0 = rp_ab (rq_mt I J n) (l + 1) := by rw [rp_ab, if_neg (show ¬ rq_mt I J n l = true from fun q => (of_decide_eq_true q).elim h11 h12)]
              rw [g1, g2]
              exact ih (l + 1) (by omega) (by omega)
            · skip
              refine aw_iconst (v := nI 1) dX8_check_278 (by decide) ?_
              refine aw_goto (t := 283) dX8_check_279 (by decide) ?_
              refine aw_iand dX8_check_283 ?_
              refine aw_istore dX8_check_284 (by decide) ?_
              refine aw_lv (lv2 := [.ref _, .int _, .int _, .int _, .int _, .int _]) rfl ?_
              refine aw_iincN dX8_check_286 rfl (by decide) ?_
              refine aw_lv (lv2 := [.ref _, .int _, .int _, .int _, .int _, .int _]) rfl ?_
              refine aw_goto (t := 215) dX8_check_289 (by decide) ?_
              try simp only [lcmpE, lcmpL, lcmpG, lcmpLE, lcmpGT, nrm_le, nrm_le64, Classical.not_not] at h7
              try simp only [lcmpE, lcmpL, lcmpG, lcmpLE, lcmpGT, nrm_le, nrm_le64, Classical.not_not] at h10
              try simp only [lcmpE, lcmpL, lcmpG, lcmpLE, lcmpGT, nrm_le, nrm_le64, Classical.not_not] at h11
              try simp only [lcmpE, lcmpL, lcmpG, lcmpLE, lcmpGT, nrm_le, nrm_le64, Classical.not_not] at h12
              have g1 : rp_ab (rq_sg I J) l &&& nI 0 = rp_ab (rq_sg I J) (l + 1) := by rw [rp_ab, if_neg (show ¬ rq_sg I J l = true from fun q => (of_decide_eq_true q).elim (fun q => q h7) (fun q => q h10))]
              have g2 : rp_ab (rq_mt I J n) l &&& nI 1 = rp_ab (rq_mt I J n) (l + 1) := by rw [rp_ab, if_pos (show rq_mt I J n l = true from decide_eq_true (Or.inr h12))]
              rw [g1, g2]
              exact ih (l + 1) (by omega) (by omega)
        · skip
          refine aw_iconst (v := nI 1) dX8_check_246 (by decide) ?_
          refine aw_goto (t := 251) dX8_check_247 (by decide) ?_
          refine aw_iand dX8_check_251 ?_
          refine aw_istore_n dX8_check_252 (by decide) ?_
          refine aw_lv (lv2 := [.ref _, .int _, .int _, .int _, .int _, .int _]) rfl ?_
          refine aw_iload dX8_check_253 rfl ?_
          refine aw_aload_n dX8_check_255 rfl ?_
          refine aw_getR dX8_check_256 flX8_39 hM.o hM.p17 ?_
          refine aw_pc (pc2 := 259) rfl ?_
          refine aw_iload dX8_check_259 rfl ?_
          refine aw_lald dX8_check_261 hM.s17 rfl (by omega) ?_
          refine aw_lconst (v := 0) dX8_check_262 (by decide) ?_
          refine aw_lcmp dX8_check_263 ?_
          refine aw_if_eq (t := 278) dX8_check_264 (by decide) (fun h13 => ?_) (fun h13 => ?_)
          · skip
            refine aw_iconst (v := nI 1) dX8_check_278 (by decide) ?_
            refine aw_goto (t := 283) dX8_check_279 (by decide) ?_
            refine aw_iand dX8_check_283 ?_
            refine aw_istore dX8_check_284 (by decide) ?_
            refine aw_lv (lv2 := [.ref _, .int _, .int _, .int _, .int _, .int _]) rfl ?_
            refine aw_iincN dX8_check_286 rfl (by decide) ?_
            refine aw_lv (lv2 := [.ref _, .int _, .int _, .int _, .int _, .int _]) rfl ?_
            refine aw_goto (t := 215) dX8_check_289 (by decide) ?_
            try simp only [lcmpE, lcmpL, lcmpG, lcmpLE, lcmpGT, nrm_le, nrm_le64, Classical.not_not] at h7
            try simp only [lcmpE, lcmpL, lcmpG, lcmpLE, lcmpGT, nrm_le, nrm_le64, Classical.not_not] at h10
            try simp only [lcmpE, lcmpL, lcmpG, lcmpLE, lcmpGT, nrm_le, nrm_le64, Classical.not_not] at h13
            have g1 : rp_ab (rq_sg I J) l &&& nI 1 = rp_ab (rq_sg I J) (l + 1) := by rw [rp_ab, if_pos (show rq_sg I J l = true from decide_eq_true (Or.inr h10))]
            have g2 : rp_ab (rq_mt I J n) l &&& nI 1 = rp_ab (rq_mt I J n) (l + 1) := by rw [rp_ab, if_pos (show rq_mt I J n l = true from decide_eq_true (Or.inl h13))]
            rw [g1, g2]
            exact ih (l + 1) (by omega) (by omega)
          · skip
            refine aw_aload_n dX8_check_267 rfl ?_
            refine aw_iload dX8_check_268 rfl ?_
            refine aw_cvL (As := [_]) (d' := d - 1) dX8_check_270 lkX8_172 hM.o (by omega) rfl rfl (Nat.le_of_ble_eq_true rfl) ⟨Nat.le_refl _, Nat.le_refl _⟩ (tX8_slackOf hM hn hn3 (by omega) (by omega) ?_)
            refine aw_lconst (v := 0) dX8_check_273 (by decide) ?_
            refine aw_lcmp dX8_check_274 ?_
            refine aw_pc (pc2 := 275) rfl ?_
            refine aw_if_ne (t := 282) dX8_check_275 (by decide) (fun h14 => ?_) (fun h14 => ?_)
            · skip
              refine aw_iconst (v := nI 0) dX8_check_282 (by decide) ?_
              refine aw_iand dX8_check_283 ?_
              refine aw_istore dX8_check_284 (by decide) ?_
              refine aw_lv (lv2 := [.ref _, .int _, .int _, .int _, .int _, .int _]) rfl ?_
              refine aw_iincN dX8_check_286 rfl (by decide) ?_
              refine aw_lv (lv2 := [.ref _, .int _, .int _, .int _, .int _, .int _]) rfl ?_
              refine aw_goto (t := 215) dX8_check_289 (by decide) ?_
              try simp only [lcmpE, lcmpL, lcmpG, lcmpLE, lcmpGT, nrm_le, nrm_le64, Classical.not_not] at h7
              try simp only [lcmpE, lcmpL, lcmpG, lcmpLE, lcmpGT, nrm_le, nrm_le64, Classical.not_not] at h10
              try simp only [lcmpE, lcmpL, lcmpG, lcmpLE, lcmpGT, nrm_le, nrm_le64, Classical.not_not] at h13
              try simp only [lcmpE, lcmpL, lcmpG, lcmpLE, lcmpGT, nrm_le, nrm_le64, Classical.not_not] at h14
              have g1 : rp_ab (rq_sg I J) l &&& nI 1 = rp_ab (rq_sg I J) (l + 1) := by rw [rp_ab, if_pos (show rq_sg I J l = true from decide_eq_true (Or.inr h10))]
              have g2 : rp_ab (rq_mt I J n) l &&& nI 0 = rp_ab (rq_mt I J n) (l + 1) := by rw [rp_ab, if_neg (show ¬ rq_mt I J n l = true from fun q => (of_decide_eq_true q).elim h13 h14)]
              rw [g1, g2]
              exact ih (l + 1) (by omega) (by omega)
            · skip
              refine aw_iconst (v := nI 1) dX8_check_278 (by decide) ?_
              refine aw_goto (t := 283) dX8_check_279 (by decide) ?_
              refine aw_iand dX8_check_283 ?_
              refine aw_istore dX8_check_284 (by decide) ?_
              refine aw_lv (lv2 := [.ref _, .int _, .int _, .int _, .int _, .int _]) rfl ?_
              refine aw_iincN dX8_check_286 rfl (by decide) ?_
              refine aw_lv (lv2 := [.ref _, .int _, .int _, .int _, .int _, .int _]) rfl ?_
              refine aw_goto (t := 215) dX8_check_289 (by decide) ?_
              try simp only [lcmpE, lcmpL, lcmpG, lcmpLE, lcmpGT, nrm_le, nrm_le64, Classical.not_not] at h7
              try simp only [lcmpE, lcmpL, lcmpG, lcmpLE, lcmpGT, nrm_le, nrm_le64, Classical.not_not] at h10
              try simp only [lcmpE, lcmpL, lcmpG, lcmpLE, lcmpGT, nrm_le, nrm_le64, Classical.not_not] at h13
              try simp only [lcmpE, lcmpL, lcmpG, lcmpLE, lcmpGT, nrm_le, nrm_le64, Classical.not_not] at h14
              have g1 : rp_ab (rq_sg I J) l &&& nI 1 = rp_ab (rq_sg I J) (l + 1) := by rw [rp_ab, if_pos (show rq_sg I J l = true from decide_eq_true (Or.inr h10))]
              have g2 : rp_ab (rq_mt I J n) l &&& nI 1 = rp_ab (rq_mt I J n) (l + 1) := by rw [rp_ab, if_pos (show rq_mt I J n l = true from decide_eq_true (Or.inr h14))]
              rw [g1, g2]
              exact ih (l + 1) (by omega) (by omega)
theorem lX8_check4 {G : aw_G} {d : Nat} {Ω : aw_O} {I : aw_MI} {J : aw_MJ} {Q : Int32 → aw_O → aw_MI → aw_MJ → Prop} {n m s : Nat} (hM : aw_model Ω 65) (hn : I 65 0 = nI n) (hn3 : n ≤ 3) (hm : I 65 4 = nI m) (hm6 : m ≤ 6) (hs : s < 4) (hd : 5 ≤ d) {v : Int32} (hQ : Q (rp_fw I (aw_up (aw_wr (aw_wr J 73 0 n (fun i => J 83 (12 * s + i))) 74 0 6 (fun l => if l < m then J 83 (12 * s + n + l) else 0)) 65 18 (J 83 (12 * s + n + m))) n m) Ω I (aw_up (aw_wr (aw_wr J 73 0 n (fun i => J 83 (12 * s + i))) 74 0 6 (fun l => if l < m then J 83 (12 * s + n + l) else 0)) 65 18 (J 83 (12 * s + n + m)))) : ∀ (z i : Nat), i ≤ 6 → 6 - i < z → AW G MX8_check (aw_nx Ω) d 0 0 (aw_QI Q) Ω I (aw_wr (aw_wr J 73 0 n (fun i => J 83 (12 * s + i))) 74 0 i (fun l => if l < m then J 83 (12 * s + n + l) else 0)) 0 0 [.ref (aw_ad G 65), .int (nI s), .int v, .int (nI i), .null, .null] 138 [] := by
  intro z
  induction z with
  | zero =>
    intro i h0 hz
    exact absurd hz (by omega)
  | succ z ih =>
    intro i h0 hz
    refine aw_iload_n dX8_check_138 rfl ?_
    refine aw_bipush (v := nI 6) dX8_check_139 (by decide) ?_
    refine aw_geN (t := 184) dX8_check_141 (by decide) (by omega) (by omega) (fun h1 => ?_) (fun h1 => ?_)
    · skip
      refine aw_aload_n dX8_check_184 rfl ?_
      refine aw_aload_n dX8_check_185 rfl ?_
      refine aw_getR dX8_check_186 flX8_66 hM.o hM.p32 ?_
      refine aw_bipush (v := nI 12) dX8_check_189 (by decide) ?_
      refine aw_iload_n dX8_check_191 rfl ?_
      refine aw_pc (pc2 := 192) rfl ?_
      refine aw_imulN dX8_check_192 ?_
      refine aw_aload_n dX8_check_193 rfl ?_
      refine aw_getIv (v := nI n) dX8_check_194 flX8_7 hM.o hn ?_
      refine aw_iaddN dX8_check_197 ?_
      refine aw_aload_n dX8_check_198 rfl ?_
      refine aw_getIv (v := nI m) dX8_check_199 flX8_88 hM.o hm ?_
      refine aw_pc (pc2 := 202) rfl ?_
      refine aw_iaddN dX8_check_202 ?_
      refine aw_laldv (v := J 83 (((12 * s) + n) + m)) dX8_check_203 hM.s32 rfl (by omega) (congrFun (by simp (disch := omega) only [aw_cp_off, aw_up_off, aw_wr_off, aw_fill_off, aw_fr_off]) _) ?_
      refine aw_putJ dX8_check_204 fwX8_161 hM.o rfl ?_
      refine aw_iconst (v := nI 1) dX8_check_207 (by decide) ?_
      refine aw_istore_n dX8_check_208 (by decide) ?_
      refine aw_lv (lv2 := [.ref _, .int _, .int _, .int _, .null, .null]) rfl ?_
      refine aw_iconst (v := nI 1) dX8_check_209 (by decide) ?_
      refine aw_pc (pc2 := 210) rfl ?_
      refine aw_istore dX8_check_210 (by decide) ?_
      refine aw_lv (lv2 := [.ref _, .int _, .int _, .int _, .int _, .null]) rfl ?_
      refine aw_iconst (v := nI 0) dX8_check_212 (by decide) ?_
      refine aw_istore dX8_check_213 (by decide) ?_
      refine aw_lv (lv2 := [.ref _, .int _, .int _, .int _, .int _, .int _]) rfl ?_
      rw [show i = 6 from by omega]
      exact lX8_check5 hM hn hn3 hm hm6 hs hd hQ (m + 1) 0 (by omega) (by omega)
    · skip
      refine aw_aload_n dX8_check_144 rfl ?_
      refine aw_getR dX8_check_145 flX8_39 hM.o hM.p17 ?_
      refine aw_iload_n dX8_check_148 rfl ?_
      refine aw_iload_n dX8_check_149 rfl ?_
      refine aw_aload_n dX8_check_150 rfl ?_
      refine aw_pc (pc2 := 151) rfl ?_
      refine aw_getIv (v := nI m) dX8_check_151 flX8_88 hM.o hm ?_
      refine aw_geN (t := 176) dX8_check_154 (by decide) (by omega) (by omega) (fun h2 => ?_) (fun h2 => ?_)
      · skip
        refine aw_lconst (v := 0) dX8_check_176 (by decide) ?_
        refine aw_last dX8_check_177 hM.s17 rfl (by omega) rfl ?_
        refine aw_iincN dX8_check_178 rfl (by decide) ?_
        refine aw_lv (lv2 := [.ref _, .int _, .int _, .int _, .null, .null]) rfl ?_
        refine aw_goto (t := 138) dX8_check_181 (by decide) ?_
        refine aw_toM rfl (show aw_up _ 74 i _ = (aw_wr (aw_wr J 73 0 n (fun i => J 83 (12 * s + i))) 74 0 (i + 1) (fun l => if l < m then J 83 (12 * s + n + l) else 0)) from by rw [← aw_wr_s0]; congr 1; exact (if_neg (by omega)).symm) ?_
        exact ih (i + 1) (by omega) (by omega)
      · skip
        refine aw_aload_n dX8_check_157 rfl ?_
        refine aw_getR dX8_check_158 flX8_66 hM.o hM.p32 ?_
        refine aw_bipush (v := nI 12) dX8_check_161 (by decide) ?_
        refine aw_iload_n dX8_check_163 rfl ?_
        refine aw_imulN dX8_check_164 ?_
        refine aw_pc (pc2 := 165) rfl ?_
        refine aw_aload_n dX8_check_165 rfl ?_
        refine aw_getIv (v := nI n) dX8_check_166 flX8_7 hM.o hn ?_
        refine aw_iaddN dX8_check_169 ?_
        refine aw_iload_n dX8_check_170 rfl ?_
        refine aw_iaddN dX8_check_171 ?_
        refine aw_laldv (v := J 83 (((12 * s) + n) + i)) dX8_check_172 hM.s32 rfl (by omega) (congrFun (by simp (disch := omega) only [aw_cp_off, aw_up_off, aw_wr_off, aw_fill_off, aw_fr_off]) _) ?_
        refine aw_pc (pc2 := 173) rfl ?_
        refine aw_goto (t := 177) dX8_check_173 (by decide) ?_
        refine aw_last dX8_check_177 hM.s17 rfl (by omega) rfl ?_
        refine aw_iincN dX8_check_178 rfl (by decide) ?_
        refine aw_lv (lv2 := [.ref _, .int _, .int _, .int _, .null, .null]) rfl ?_
        refine aw_goto (t := 138) dX8_check_181 (by decide) ?_
        refine aw_toM rfl (show aw_up _ 74 i _ = (aw_wr (aw_wr J 73 0 n (fun i => J 83 (12 * s + i))) 74 0 (i + 1) (fun l => if l < m then J 83 (12 * s + n + l) else 0)) from by rw [← aw_wr_s0]; congr 1; exact (if_pos (by omega)).symm) ?_
        exact ih (i + 1) (by omega) (by omega)
theorem lX8_check3 {G : aw_G} {d : Nat} {Ω : aw_O} {I : aw_MI} {J : aw_MJ} {Q : Int32 → aw_O → aw_MI → aw_MJ → Prop} {n m s : Nat} (hM : aw_model Ω 65) (hn : I 65 0 = nI n) (hn3 : n ≤ 3) (hm : I 65 4 = nI m) (hm6 : m ≤ 6) (hs : s < 4) (hd : 5 ≤ d) {v : Int32} (hQ : Q (rp_fw I (aw_up (aw_wr (aw_wr J 73 0 n (fun i => J 83 (12 * s + i))) 74 0 6 (fun l => if l < m then J 83 (12 * s + n + l) else 0)) 65 18 (J 83 (12 * s + n + m))) n m) Ω I (aw_up (aw_wr (aw_wr J 73 0 n (fun i => J 83 (12 * s + i))) 74 0 6 (fun l => if l < m then J 83 (12 * s + n + l) else 0)) 65 18 (J 83 (12 * s + n + m)))) : ∀ (z i : Nat), i ≤ n → n - i < z → AW G MX8_check (aw_nx Ω) d 0 0 (aw_QI Q) Ω I (aw_wr J 73 0 i (fun i => J 83 (12 * s + i))) 0 0 [.ref (aw_ad G 65), .int (nI s), .int v, .int (nI i), .null, .null] 105 [] := by
  intro z
  induction z with
  | zero =>
    intro i h0 hz
    exact absurd hz (by omega)
  | succ z ih =>
    intro i h0 hz
    refine aw_iload_n dX8_check_105 rfl ?_
    refine aw_aload_n dX8_check_106 rfl ?_
    refine aw_getIv (v := nI n) dX8_check_107 flX8_7 hM.o hn ?_
    refine aw_geN (t := 136) dX8_check_110 (by decide) (by omega) (by omega) (fun h1 => ?_) (fun h1 => ?_)
    · skip
      refine aw_iconst (v := nI 0) dX8_check_136 (by decide) ?_
      refine aw_istore_n dX8_check_137 (by decide) ?_
      refine aw_lv (lv2 := [.ref _, .int _, .int _, .int _, .null, .null]) rfl ?_
      rw [show i = n from by omega]
      refine aw_toM rfl (aw_wr_0 (aw_wr J 73 0 n (fun i => J 83 (12 * s + i))) 74 0 (fun l => if l < m then J 83 (12 * s + n + l) else 0)) ?_
      exact lX8_check4 hM hn hn3 hm hm6 hs hd hQ 7 0 (by omega) (by omega)
    · skip
      refine aw_aload_n dX8_check_113 rfl ?_
      refine aw_getR dX8_check_114 flX8_36 hM.o hM.p16 ?_
      refine aw_iload_n dX8_check_117 rfl ?_
      refine aw_aload_n dX8_check_118 rfl ?_
      refine aw_getR dX8_check_119 flX8_66 hM.o hM.p32 ?_
      refine aw_pc (pc2 := 122) rfl ?_
      refine aw_bipush (v := nI 12) dX8_check_122 (by decide) ?_
      refine aw_iload_n dX8_check_124 rfl ?_
      refine aw_imulN dX8_check_125 ?_
      refine aw_iload_n dX8_check_126 rfl ?_
      refine aw_iaddN dX8_check_127 ?_
      refine aw_laldv (v := J 83 ((12 * s) + i)) dX8_check_128 hM.s32 rfl (by omega) (congrFun (by simp (disch := omega) only [aw_cp_off, aw_up_off, aw_wr_off, aw_fill_off, aw_fr_off]) _) ?_
      refine aw_pc (pc2 := 129) rfl ?_
      refine aw_last dX8_check_129 hM.s16 rfl (by omega) rfl ?_
      refine aw_iincN dX8_check_130 rfl (by decide) ?_
      refine aw_lv (lv2 := [.ref _, .int _, .int _, .int _, .null, .null]) rfl ?_
      refine aw_goto (t := 105) dX8_check_133 (by decide) ?_
      refine aw_toM rfl (aw_wr_s0 J 73 i (fun i => J 83 (12 * s + i))) ?_
      exact ih (i + 1) (by omega) (by omega)
theorem lX8_check2 {G : aw_G} {d : Nat} {Ω : aw_O} {I : aw_MI} {J : aw_MJ} {Q : Int32 → aw_O → aw_MI → aw_MJ → Prop} {n m s : Nat} (hM : aw_model Ω 65) (hn : I 65 0 = nI n) (hn3 : n ≤ 3) (hm : I 65 4 = nI m) (hm6 : m ≤ 6) (hs : s < 4) (he : I 82 s = nI (n + m + 1)) (hd : 5 ≤ d) (kM : ¬ rp_far (fun k => J 83 (12 * s + k)) (n + m + 1) = 0 → Q (-5) Ω I J) (hQ : rp_far (fun k => J 83 (12 * s + k)) (n + m + 1) = 0 → Q (rp_fw I (aw_up (aw_wr (aw_wr J 73 0 n (fun i => J 83 (12 * s + i))) 74 0 6 (fun l => if l < m then J 83 (12 * s + n + l) else 0)) 65 18 (J 83 (12 * s + n + m))) n m) Ω I (aw_up (aw_wr (aw_wr J 73 0 n (fun i => J 83 (12 * s + i))) 74 0 6 (fun l => if l < m then J 83 (12 * s + n + l) else 0)) 65 18 (J 83 (12 * s + n + m)))) : ∀ (z k : Nat), k ≤ n + m + 1 → n + m + 1 - k < z → AW G MX8_check (aw_nx Ω) d 0 0 (aw_QI Q) Ω I J 0 0 [.ref (aw_ad G 65), .int (nI s), .int (rp_far (fun k => J 83 (12 * s + k)) k), .int (nI k), .null, .null] 49 [] := by
  intro z
  induction z with
  | zero =>
    intro k h0 hz
    exact absurd hz (by omega)
  | succ z ih =>
    intro k h0 hz
    refine aw_iload_n dX8_check_49 rfl ?_
    refine aw_aload_n dX8_check_50 rfl ?_
    refine aw_getR dX8_check_51 flX8_63 hM.o hM.p31 ?_
    refine aw_iload_n dX8_check_54 rfl ?_
    refine aw_ialdv (v := nI (n + m + 1)) dX8_check_55 hM.s31 rfl (by omega) he ?_
    refine aw_pc (pc2 := 56) rfl ?_
    refine aw_geN (t := 96) dX8_check_56 (by decide) (by omega) (by omega) (fun h1 => ?_) (fun h1 => ?_)
    · skip
      refine aw_iload_n dX8_check_96 rfl ?_
      refine aw_if_eq (t := 103) dX8_check_97 (by decide) (fun h2 => ?_) (fun h2 => ?_)
      · skip
        refine aw_iconst (v := nI 0) dX8_check_103 (by decide) ?_
        refine aw_istore_n dX8_check_104 (by decide) ?_
        refine aw_lv (lv2 := [.ref _, .int _, .int _, .int _, .null, .null]) rfl ?_
        have hf : rp_far (fun k => J 83 (12 * s + k)) (n + m + 1) = 0 := by rw [show n + m + 1 = k from by omega]; exact h2
        refine aw_toM rfl (aw_wr_0 J 73 0 (fun i => J 83 (12 * s + i))) ?_
        exact lX8_check3 hM hn hn3 hm hm6 hs hd (hQ hf) (n + 1) 0 (by omega) (by omega)
      · skip
        refine aw_bipush (v := -5) dX8_check_100 (by decide) ?_
        exact aw_iret dX8_check_102 rfl (kM (by rw [show n + m + 1 = k from by omega]; exact h2)) (Nat.zero_le _) (Nat.zero_le _)
    · skip
      refine aw_iload_n dX8_check_59 rfl ?_
      refine aw_aload_n dX8_check_60 rfl ?_
      refine aw_getR dX8_check_61 flX8_66 hM.o hM.p32 ?_
      refine aw_bipush (v := nI 12) dX8_check_64 (by decide) ?_
      refine aw_iload_n dX8_check_66 rfl ?_
      refine aw_pc (pc2 := 67) rfl ?_
      refine aw_imulN dX8_check_67 ?_
      refine aw_iload_n dX8_check_68 rfl ?_
      refine aw_iaddN dX8_check_69 ?_
      refine aw_lald dX8_check_70 hM.s32 rfl (by omega) ?_
      refine aw_ldc2 (v := -1000000000000) dX8_check_71 (aw_pl 1144 (by decide +kernel) rfl) ?_
      refine aw_ldc2 (v := 1000000000000) dX8_check_74 (aw_pl 1145 (by decide +kernel) rfl) ?_
      refine aw_pc (pc2 := 77) rfl ?_
      refine aw_csI (As := [_, _, _]) (d' := d - 1) dX8_check_77 lkX8_84 (by omega) rfl rfl (Nat.le_of_ble_eq_true rfl) ⟨Nat.le_refl _, Nat.le_refl _⟩ (tX8_in ?_)
      refine aw_if_ne (t := 87) dX8_check_80 (by decide) (fun h3 => ?_) (fun h3 => ?_)
      · skip
        refine aw_iconst (v := nI 0) dX8_check_87 (by decide) ?_
        refine aw_ior dX8_check_88 ?_
        refine aw_istore_n dX8_check_89 (by decide) ?_
        refine aw_lv (lv2 := [.ref _, .int _, .int _, .int _, .null, .null]) rfl ?_
        refine aw_iincN dX8_check_90 rfl (by decide) ?_
        refine aw_lv (lv2 := [.ref _, .int _, .int _, .int _, .null, .null]) rfl ?_
        refine aw_goto (t := 49) dX8_check_93 (by decide) ?_
        have g1 : rp_far (fun k => J 83 (12 * s + k)) (k + 1) = rp_far (fun k => J 83 (12 * s + k)) k ||| nI 0 := by rw [rp_far, if_neg h3]
        have q9 := ih (k + 1) (by omega) (by omega)
        rw [g1] at q9
        exact q9
      · skip
        refine aw_iconst (v := nI 1) dX8_check_83 (by decide) ?_
        refine aw_goto (t := 88) dX8_check_84 (by decide) ?_
        refine aw_ior dX8_check_88 ?_
        refine aw_istore_n dX8_check_89 (by decide) ?_
        refine aw_lv (lv2 := [.ref _, .int _, .int _, .int _, .null, .null]) rfl ?_
        refine aw_iincN dX8_check_90 rfl (by decide) ?_
        refine aw_lv (lv2 := [.ref _, .int _, .int _, .int _, .null, .null]) rfl ?_
        refine aw_goto (t := 49) dX8_check_93 (by decide) ?_
        have g1 : rp_far (fun k => J 83 (12 * s + k)) (k + 1) = rp_far (fun k => J 83 (12 * s + k)) k ||| nI 1 := by rw [rp_far, if_pos h3]
        have q9 := ih (k + 1) (by omega) (by omega)
        rw [g1] at q9
        exact q9
theorem tX8_check {G : aw_G} {d : Nat} {Ω : aw_O} {I : aw_MI} {J : aw_MJ} {Q : Int32 → aw_O → aw_MI → aw_MJ → Prop} {n m : Nat} (hM : aw_model Ω 65) (hn : I 65 0 = nI n) (hn3 : n ≤ 3) (hm : I 65 4 = nI m) (hm6 : m ≤ 6) {x : Int32} (hd : 6 ≤ d) (kB : sp_var x 4 = 0 → Q (-2) Ω I J) (kO : ∀ s, x = nI s → s < 4 → I 81 s < 0 → Q (-11) Ω I J) (kZ : ∀ s, x = nI s → s < 4 → ¬ I 81 s < 0 → ¬ I 82 s = nI (n + m + 1) → Q (-14) Ω I J) (kM : ∀ s, x = nI s → s < 4 → ¬ I 81 s < 0 → I 82 s = nI (n + m + 1) → ¬ rp_far (fun k => J 83 (12 * s + k)) (n + m + 1) = 0 → Q (-5) Ω I J) (hQ : ∀ s, x = nI s → s < 4 → ¬ I 81 s < 0 → I 82 s = nI (n + m + 1) → rp_far (fun k => J 83 (12 * s + k)) (n + m + 1) = 0 → Q (rp_fw I (aw_up (aw_wr (aw_wr J 73 0 n (fun i => J 83 (12 * s + i))) 74 0 6 (fun l => if l < m then J 83 (12 * s + n + l) else 0)) 65 18 (J 83 (12 * s + n + m))) n m) Ω I (aw_up (aw_wr (aw_wr J 73 0 n (fun i => J 83 (12 * s + i))) 74 0 6 (fun l => if l < m then J 83 (12 * s + n + l) else 0)) 65 18 (J 83 (12 * s + n + m)))) : aw_Call G MX8_check d 0 0 [.ref (aw_ad G 65), .int x] Ω I J (aw_QI Q) := by
  refine aw_enter (by decide +kernel) rfl (Nat.le_of_ble_eq_true rfl) ?_
  show AW G MX8_check (aw_nx Ω) d 0 0 (aw_QI Q) Ω I J 0 0 [.ref (aw_ad G 65), .int x, .null, .null, .null, .null] 0 []
  refine aw_iload_n dX8_check_0 rfl ?_
  refine aw_csI (As := [_]) (d' := d - 1) dX8_check_1 lkX8_251 (by omega) rfl rfl (Nat.le_of_ble_eq_true rfl) ⟨Nat.le_refl _, Nat.le_refl _⟩ (tX8_isSheet (by omega) ?_)
  refine aw_if_ne (t := 10) dX8_check_4 (by decide) (fun h1 => ?_) (fun h1 => ?_)
  · skip
    obtain ⟨s, hs, rfl⟩ := sp_var1 h1
    refine aw_aload_n dX8_check_10 rfl ?_
    refine aw_getR dX8_check_11 flX8_60 hM.o hM.p30 ?_
    refine aw_iload_n dX8_check_14 rfl ?_
    refine aw_iald dX8_check_15 hM.s30 rfl (by omega) ?_
    refine aw_if_ge (t := 22) dX8_check_16 (by decide) (fun h2 => ?_) (fun h2 => ?_)
    · skip
      refine aw_aload_n dX8_check_22 rfl ?_
      refine aw_getR dX8_check_23 flX8_63 hM.o hM.p31 ?_
      refine aw_iload_n dX8_check_26 rfl ?_
      refine aw_iald dX8_check_27 hM.s31 rfl (by omega) ?_
      refine aw_aload_n dX8_check_28 rfl ?_
      refine aw_pc (pc2 := 29) rfl ?_
      refine aw_getIv (v := nI n) dX8_check_29 flX8_7 hM.o hn ?_
      refine aw_aload_n dX8_check_32 rfl ?_
      refine aw_getIv (v := nI m) dX8_check_33 flX8_88 hM.o hm ?_
      refine aw_iaddN dX8_check_36 ?_
      refine aw_iconst (v := nI 1) dX8_check_37 (by decide) ?_
      refine aw_iaddN dX8_check_38 ?_
      refine aw_pc (pc2 := 39) rfl ?_
      refine aw_icmp_eq (t := 45) dX8_check_39 (by decide) (fun h3 => ?_) (fun h3 => ?_)
      · skip
        refine aw_iconst (v := nI 0) dX8_check_45 (by decide) ?_
        refine aw_istore_n dX8_check_46 (by decide) ?_
        refine aw_lv (lv2 := [.ref _, .int _, .int _, .null, .null, .null]) rfl ?_
        refine aw_iconst (v := nI 0) dX8_check_47 (by decide) ?_
        refine aw_istore_n dX8_check_48 (by decide) ?_
        refine aw_lv (lv2 := [.ref _, .int _, .int _, .int _, .null, .null]) rfl ?_
        try simp only [lcmpE, lcmpL, lcmpG, lcmpLE, lcmpGT, nrm_le, nrm_le64, Classical.not_not] at h1
        try simp only [lcmpE, lcmpL, lcmpG, lcmpLE, lcmpGT, nrm_le, nrm_le64, Classical.not_not] at h2
        try simp only [lcmpE, lcmpL, lcmpG, lcmpLE, lcmpGT, nrm_le, nrm_le64, Classical.not_not] at h3
        exact lX8_check2 hM hn hn3 hm hm6 hs h3 (by omega) (kM s rfl hs h2 h3) (hQ s rfl hs h2 h3) (n + m + 2) 0 (by omega) (by omega)
      · skip
        refine aw_bipush (v := -14) dX8_check_42 (by decide) ?_
        try simp only [lcmpE, lcmpL, lcmpG, lcmpLE, lcmpGT, nrm_le, nrm_le64, Classical.not_not] at h1
        try simp only [lcmpE, lcmpL, lcmpG, lcmpLE, lcmpGT, nrm_le, nrm_le64, Classical.not_not] at h2
        try simp only [lcmpE, lcmpL, lcmpG, lcmpLE, lcmpGT, nrm_le, nrm_le64, Classical.not_not] at h3
        exact aw_iret dX8_check_44 rfl (kZ s rfl hs h2 h3) (Nat.zero_le _) (Nat.zero_le _)
    · skip
      refine aw_bipush (v := -11) dX8_check_19 (by decide) ?_
      try simp only [lcmpE, lcmpL, lcmpG, lcmpLE, lcmpGT, nrm_le, nrm_le64, Classical.not_not] at h1
      try simp only [lcmpE, lcmpL, lcmpG, lcmpLE, lcmpGT, nrm_le, nrm_le64, Classical.not_not] at h2
      exact aw_iret dX8_check_21 rfl (kO s rfl hs h2) (Nat.zero_le _) (Nat.zero_le _)
  · skip
    refine aw_bipush (v := -2) dX8_check_7 (by decide) ?_
    try simp only [lcmpE, lcmpL, lcmpG, lcmpLE, lcmpGT, nrm_le, nrm_le64, Classical.not_not] at h1
    exact aw_iret dX8_check_9 rfl (kB h1) (Nat.zero_le _) (Nat.zero_le _)
/-! certify -/
def dv_v (a b : Int64) : Int64 := sp_gcd b.toInt.natAbs (sp_abs a) b
theorem dv_ne {a b : Int64} (h : ¬ b = 0) : ¬ dv_v a b = 0 := sp_gcd_ne _ _ _ (sp_gt_all _ _ _ (Nat.le_refl _)) (Or.inl h)
def rp_g1 (b : Int64) (x : Nat → Int64) : Nat → Int64
  | 0 => b
  | i + 1 => dv_v (x i) (rp_g1 b x i)
theorem rp_g1_ne {b : Int64} {x : Nat → Int64} (h : ¬ b = 0) : ∀ i, ¬ rp_g1 b x i = 0
  | 0 => h
  | i + 1 => dv_ne (rp_g1_ne h i)
theorem rp_g1_c {b : Int64} {x y : Nat → Int64} : ∀ {n : Nat}, (∀ i, i < n → x i = y i) → rp_g1 b x n = rp_g1 b y n
  | 0, _ => rfl
  | n + 1, h => by
    unfold rp_g1
    rw [h n (by omega), rp_g1_c (fun i hi => h i (by omega))]
theorem tX8_dv {G : aw_G} {d : Nat} {Ω : aw_O} {I : aw_MI} {J : aw_MJ} {Q : Int64 → aw_O → aw_MI → aw_MJ → Prop} {a b : Int64} (hQ : Q (dv_v a b) Ω I J) : aw_Call G MX8_divisor d 0 0 [.long a, .long b] Ω I J (aw_QL Q) := tX8_divisor (sp_gt_all _ _ _ (Nat.le_refl _)) hQ
theorem tX8_lacksA {G : aw_G} {d : Nat} {Ω : aw_O} {I : aw_MI} {J : aw_MJ} {Q : Int32 → aw_O → aw_MI → aw_MJ → Prop} {n m : Nat} (hM : aw_model Ω 65) (hn : I 65 0 = nI n) (hn3 : n ≤ 3) (hm : I 65 4 = nI m) (hm6 : m ≤ 6) (hd : 6 ≤ d) (kS : ∀ I' J', rp_ac (I 66) n = 0 → mr_I I I' → mr_J J J' → Q (-3) Ω I' J') (kN : ∀ I' J', ¬ rp_ac (I 66) n = 0 → mr_I I I' → mr_J J J' → rx_res I n m (2 ^ m - 1) = -1 → Q (-1) Ω I' J') (hQ : ∀ w I' J', ¬ rp_ac (I 66) n = 0 → w < 2 ^ m → mr_I I I' → mr_J J J' → rx_gb I n m (nI (2 ^ m - 1)) (I 65 3) w = true → rx_At I n m w (I 65 3) J' → rx_res I n m (2 ^ m - 1) = nI w → Q (nI 0) Ω I' J') : aw_Call G MX8_lacks d 0 0 [.ref (aw_ad G 65), .int (nI (2 ^ m - 1)), .int (nI 1)] Ω I J (aw_QI Q) := by
  have h64 : 2 ^ m ≤ 2 ^ 6 := Nat.pow_le_pow_right (by decide) hm6
  have hpos : 0 < 2 ^ m := Nat.pos_of_ne_zero (by simp)
  have hS : ∀ S, nI (2 ^ m - 1) = nI S → S < 2 ^ m → S = 2 ^ m - 1 := fun S e h => ((nI_eq (by omega) (by omega)).mp e).symm
  refine tX8_lacks hM hn hn3 hm hm6 hd (fun q => ?_) (fun I' J' _ p a b => kS I' J' p a b) (fun S I' J' e h p a b f => ?_) (fun S w I' J' e h p hw a b g A f => ?_)
  · rw [sp_varS (by omega) (by omega)] at q
    exact absurd q (by decide)
  · rw [hS S e h] at f
    exact kN I' J' p a b f
  · rw [hS S e h] at f g
    exact hQ w I' J' p (by omega) a b g A f
theorem lX8_certify4 {G : aw_G} {d : Nat} {Ω : aw_O} {I : aw_MI} {Q : Int32 → aw_O → aw_MI → aw_MJ → Prop} {n m w s : Nat} {t : Int32} {I0 : aw_MI} {J0 : aw_MJ} (hM : aw_model Ω 65) (hn : I 65 0 = nI n) (hn3 : n ≤ 3) (hm : I 65 4 = nI m) (hm6 : m ≤ 6) (hs : s < 4) (hA : rx_At I0 n m w t J0) (hbn : ¬ rx_b I0 n m w = 0) (hd : 1 ≤ d) {v : Int32} (hQ : Q (nI (n + m + 1)) Ω I (aw_up (aw_wr (aw_wr (aw_fr J0 83 (12 * s) 12 0) 83 (12 * s) n (fun i => (rx_v I0 n m w t) i / (rp_g1 (rp_g1 (rx_b I0 n m w) (rx_v I0 n m w t) n) (rx_y I0 n m w t) m))) 83 (12 * s + n) m (fun l => (rx_y I0 n m w t) l / (rp_g1 (rp_g1 (rx_b I0 n m w) (rx_v I0 n m w t) n) (rx_y I0 n m w t) m))) 83 (12 * s + n + m) ((rx_b I0 n m w) / (rp_g1 (rp_g1 (rx_b I0 n m w) (rx_v I0 n m w t) n) (rx_y I0 n m w t) m)))) : ∀ (z i : Nat), i ≤ m → m - i < z → AW G MX8_certify (aw_nx Ω) d 0 0 (aw_QI Q) Ω I (aw_wr (aw_wr (aw_fr J0 83 (12 * s) 12 0) 83 (12 * s) n (fun i => (rx_v I0 n m w t) i / (rp_g1 (rp_g1 (rx_b I0 n m w) (rx_v I0 n m w t) n) (rx_y I0 n m w t) m))) 83 (12 * s + n) i (fun l => (rx_y I0 n m w t) l / (rp_g1 (rp_g1 (rx_b I0 n m w) (rx_v I0 n m w t) n) (rx_y I0 n m w t) m))) 0 0 [.ref (aw_ad G 65), .int (nI s), .int v, .long (rp_g1 (rp_g1 (rx_b I0 n m w) (rx_v I0 n m w t) n) (rx_y I0 n m w t) m), .null, .int (nI i)] 150 [] := by
  intro z
  induction z with
  | zero =>
    intro i h0 hz
    exact absurd hz (by omega)
  | succ z ih =>
    intro i h0 hz
    refine aw_iload dX8_certify_150 rfl ?_
    refine aw_aload_n dX8_certify_152 rfl ?_
    refine aw_getIv (v := nI m) dX8_certify_153 flX8_88 hM.o hm ?_
    refine aw_geN (t := 191) dX8_certify_156 (by decide) (by omega) (by omega) (fun h1 => ?_) (fun h1 => ?_)
    · skip
      refine aw_aload_n dX8_certify_191 rfl ?_
      refine aw_getR dX8_certify_192 flX8_66 hM.o hM.p32 ?_
      refine aw_bipush (v := nI 12) dX8_certify_195 (by decide) ?_
      refine aw_iload_n dX8_certify_197 rfl ?_
      refine aw_imulN dX8_certify_198 ?_
      refine aw_pc (pc2 := 199) rfl ?_
      refine aw_aload_n dX8_certify_199 rfl ?_
      refine aw_getIv (v := nI n) dX8_certify_200 flX8_7 hM.o hn ?_
      refine aw_iaddN dX8_certify_203 ?_
      refine aw_aload_n dX8_certify_204 rfl ?_
      refine aw_getIv (v := nI m) dX8_certify_205 flX8_88 hM.o hm ?_
      refine aw_iaddN dX8_certify_208 ?_
      refine aw_pc (pc2 := 209) rfl ?_
      refine aw_aload_n dX8_certify_209 rfl ?_
      refine aw_getJ dX8_certify_210 flX8_161 hM.o ?_
      refine aw_toL ((congrFun (by simp (disch := omega) only [aw_wr_off, aw_fr_off, aw_up_off]) 18).trans hA.1) ?_
      refine aw_lload_n dX8_certify_213 rfl ?_
      refine aw_ldiv dX8_certify_214 (rp_g1_ne (rp_g1_ne hbn n) m) ?_
      refine aw_last dX8_certify_215 hM.s32 rfl (by omega) rfl ?_
      refine aw_aload_n dX8_certify_216 rfl ?_
      refine aw_pc (pc2 := 217) rfl ?_
      refine aw_getIv (v := nI n) dX8_certify_217 flX8_7 hM.o hn ?_
      refine aw_aload_n dX8_certify_220 rfl ?_
      refine aw_getIv (v := nI m) dX8_certify_221 flX8_88 hM.o hm ?_
      refine aw_iaddN dX8_certify_224 ?_
      refine aw_iconst (v := nI 1) dX8_certify_225 (by decide) ?_
      refine aw_iaddN dX8_certify_226 ?_
      refine aw_pc (pc2 := 227) rfl ?_
      exact aw_iret dX8_certify_227 rfl ((by rw [show i = m from by omega]; exact hQ)) (Nat.zero_le _) (Nat.zero_le _)
    · skip
      refine aw_aload_n dX8_certify_159 rfl ?_
      refine aw_getR dX8_certify_160 flX8_66 hM.o hM.p32 ?_
      refine aw_bipush (v := nI 12) dX8_certify_163 (by decide) ?_
      refine aw_iload_n dX8_certify_165 rfl ?_
      refine aw_imulN dX8_certify_166 ?_
      refine aw_pc (pc2 := 167) rfl ?_
      refine aw_aload_n dX8_certify_167 rfl ?_
      refine aw_getIv (v := nI n) dX8_certify_168 flX8_7 hM.o hn ?_
      refine aw_iaddN dX8_certify_171 ?_
      refine aw_iload dX8_certify_172 rfl ?_
      refine aw_iaddN dX8_certify_174 ?_
      refine aw_aload_n dX8_certify_175 rfl ?_
      refine aw_pc (pc2 := 176) rfl ?_
      refine aw_getR dX8_certify_176 flX8_39 hM.o hM.p17 ?_
      refine aw_iload dX8_certify_179 rfl ?_
      refine aw_laldv (v := (rx_y I0 n m w t) i) dX8_certify_181 hM.s17 rfl (by omega) ((congrFun (by simp (disch := omega) only [aw_wr_off, aw_fr_off, aw_up_off]) _).trans (hA.2.2 _ (by omega))) ?_
      refine aw_lload_n dX8_certify_182 rfl ?_
      refine aw_ldiv dX8_certify_183 (rp_g1_ne (rp_g1_ne hbn n) m) ?_
      refine aw_last dX8_certify_184 hM.s32 rfl (by omega) rfl ?_
      refine aw_pc (pc2 := 185) rfl ?_
      refine aw_iincN dX8_certify_185 rfl (by decide) ?_
      refine aw_lv (lv2 := [.ref _, .int _, .int _, .long _, .null, .int _]) rfl ?_
      refine aw_goto (t := 150) dX8_certify_188 (by decide) ?_
      refine aw_toM rfl (aw_wr_s (aw_wr (aw_fr J0 83 (12 * s) 12 0) 83 (12 * s) n (fun i => (rx_v I0 n m w t) i / (rp_g1 (rp_g1 (rx_b I0 n m w) (rx_v I0 n m w t) n) (rx_y I0 n m w t) m))) 83 (12 * s + n) i (fun l => (rx_y I0 n m w t) l / (rp_g1 (rp_g1 (rx_b I0 n m w) (rx_v I0 n m w t) n) (rx_y I0 n m w t) m))) ?_
      exact ih (i + 1) (by omega) (by omega)
theorem lX8_certify3 {G : aw_G} {d : Nat} {Ω : aw_O} {I : aw_MI} {Q : Int32 → aw_O → aw_MI → aw_MJ → Prop} {n m w s : Nat} {t : Int32} {I0 : aw_MI} {J0 : aw_MJ} (hM : aw_model Ω 65) (hn : I 65 0 = nI n) (hn3 : n ≤ 3) (hm : I 65 4 = nI m) (hm6 : m ≤ 6) (hs : s < 4) (hA : rx_At I0 n m w t J0) (hbn : ¬ rx_b I0 n m w = 0) (hd : 1 ≤ d) {v : Int32} (hQ : Q (nI (n + m + 1)) Ω I (aw_up (aw_wr (aw_wr (aw_fr J0 83 (12 * s) 12 0) 83 (12 * s) n (fun i => (rx_v I0 n m w t) i / (rp_g1 (rp_g1 (rx_b I0 n m w) (rx_v I0 n m w t) n) (rx_y I0 n m w t) m))) 83 (12 * s + n) m (fun l => (rx_y I0 n m w t) l / (rp_g1 (rp_g1 (rx_b I0 n m w) (rx_v I0 n m w t) n) (rx_y I0 n m w t) m))) 83 (12 * s + n + m) ((rx_b I0 n m w) / (rp_g1 (rp_g1 (rx_b I0 n m w) (rx_v I0 n m w t) n) (rx_y I0 n m w t) m)))) : ∀ (z i : Nat), i ≤ n → n - i < z → AW G MX8_certify (aw_nx Ω) d 0 0 (aw_QI Q) Ω I (aw_wr (aw_fr J0 83 (12 * s) 12 0) 83 (12 * s) i (fun i => (rx_v I0 n m w t) i / (rp_g1 (rp_g1 (rx_b I0 n m w) (rx_v I0 n m w t) n) (rx_y I0 n m w t) m))) 0 0 [.ref (aw_ad G 65), .int (nI s), .int v, .long (rp_g1 (rp_g1 (rx_b I0 n m w) (rx_v I0 n m w t) n) (rx_y I0 n m w t) m), .null, .int (nI i)] 111 [] := by
  intro z
  induction z with
  | zero =>
    intro i h0 hz
    exact absurd hz (by omega)
  | succ z ih =>
    intro i h0 hz
    refine aw_iload dX8_certify_111 rfl ?_
    refine aw_aload_n dX8_certify_113 rfl ?_
    refine aw_getIv (v := nI n) dX8_certify_114 flX8_7 hM.o hn ?_
    refine aw_geN (t := 147) dX8_certify_117 (by decide) (by omega) (by omega) (fun h1 => ?_) (fun h1 => ?_)
    · skip
      refine aw_iconst (v := nI 0) dX8_certify_147 (by decide) ?_
      refine aw_istore dX8_certify_148 (by decide) ?_
      refine aw_lv (lv2 := [.ref _, .int _, .int _, .long _, .null, .int _]) rfl ?_
      rw [show i = n from by omega]
      refine aw_toM rfl (aw_wr_0 (aw_wr (aw_fr J0 83 (12 * s) 12 0) 83 (12 * s) n (fun i => (rx_v I0 n m w t) i / (rp_g1 (rp_g1 (rx_b I0 n m w) (rx_v I0 n m w t) n) (rx_y I0 n m w t) m))) 83 (12 * s + n) (fun l => (rx_y I0 n m w t) l / (rp_g1 (rp_g1 (rx_b I0 n m w) (rx_v I0 n m w t) n) (rx_y I0 n m w t) m))) ?_
      exact lX8_certify4 hM hn hn3 hm hm6 hs hA hbn hd hQ (m + 1) 0 (by omega) (by omega)
    · skip
      refine aw_aload_n dX8_certify_120 rfl ?_
      refine aw_getR dX8_certify_121 flX8_66 hM.o hM.p32 ?_
      refine aw_bipush (v := nI 12) dX8_certify_124 (by decide) ?_
      refine aw_iload_n dX8_certify_126 rfl ?_
      refine aw_imulN dX8_certify_127 ?_
      refine aw_pc (pc2 := 128) rfl ?_
      refine aw_iload dX8_certify_128 rfl ?_
      refine aw_iaddN dX8_certify_130 ?_
      refine aw_aload_n dX8_certify_131 rfl ?_
      refine aw_getR dX8_certify_132 flX8_36 hM.o hM.p16 ?_
      refine aw_iload dX8_certify_135 rfl ?_
      refine aw_laldv (v := (rx_v I0 n m w t) i) dX8_certify_137 hM.s16 rfl (by omega) ((congrFun (by simp (disch := omega) only [aw_wr_off, aw_fr_off, aw_up_off]) _).trans (hA.2.1 _ (by omega))) ?_
      refine aw_pc (pc2 := 138) rfl ?_
      refine aw_lload_n dX8_certify_138 rfl ?_
      refine aw_ldiv dX8_certify_139 (rp_g1_ne (rp_g1_ne hbn n) m) ?_
      refine aw_last dX8_certify_140 hM.s32 rfl (by omega) rfl ?_
      refine aw_iincN dX8_certify_141 rfl (by decide) ?_
      refine aw_lv (lv2 := [.ref _, .int _, .int _, .long _, .null, .int _]) rfl ?_
      refine aw_goto (t := 111) dX8_certify_144 (by decide) ?_
      refine aw_toM rfl (aw_wr_s (aw_fr J0 83 (12 * s) 12 0) 83 (12 * s) i (fun i => (rx_v I0 n m w t) i / (rp_g1 (rp_g1 (rx_b I0 n m w) (rx_v I0 n m w t) n) (rx_y I0 n m w t) m))) ?_
      exact ih (i + 1) (by omega) (by omega)
theorem lX8_certify2 {G : aw_G} {d : Nat} {Ω : aw_O} {I : aw_MI} {Q : Int32 → aw_O → aw_MI → aw_MJ → Prop} {n m w s : Nat} {t : Int32} {I0 : aw_MI} {J0 : aw_MJ} (hM : aw_model Ω 65) (hn : I 65 0 = nI n) (hn3 : n ≤ 3) (hm : I 65 4 = nI m) (hm6 : m ≤ 6) (hs : s < 4) (hA : rx_At I0 n m w t J0) (hbn : ¬ rx_b I0 n m w = 0) (hd : 2 ≤ d) {v : Int32} (hQ : Q (nI (n + m + 1)) Ω (aw_up (aw_up I 81 s (nI 1)) 82 s (nI (n + m + 1))) (aw_up (aw_wr (aw_wr (aw_fr J0 83 (12 * s) 12 0) 83 (12 * s) n (fun i => (rx_v I0 n m w t) i / (rp_g1 (rp_g1 (rx_b I0 n m w) (rx_v I0 n m w t) n) (rx_y I0 n m w t) m))) 83 (12 * s + n) m (fun l => (rx_y I0 n m w t) l / (rp_g1 (rp_g1 (rx_b I0 n m w) (rx_v I0 n m w t) n) (rx_y I0 n m w t) m))) 83 (12 * s + n + m) ((rx_b I0 n m w) / (rp_g1 (rp_g1 (rx_b I0 n m w) (rx_v I0 n m w t) n) (rx_y I0 n m w t) m)))) : ∀ (z i : Nat), i ≤ m → m - i < z → AW G MX8_certify (aw_nx Ω) d 0 0 (aw_QI Q) Ω I J0 0 0 [.ref (aw_ad G 65), .int (nI s), .int v, .long (rp_g1 (rp_g1 (rx_b I0 n m w) (rx_v I0 n m w t) n) (rx_y I0 n m w t) i), .null, .int (nI i)] 64 [] := by
  intro z
  induction z with
  | zero =>
    intro i h0 hz
    exact absurd hz (by omega)
  | succ z ih =>
    intro i h0 hz
    refine aw_iload dX8_certify_64 rfl ?_
    refine aw_aload_n dX8_certify_66 rfl ?_
    refine aw_getIv (v := nI m) dX8_certify_67 flX8_88 hM.o hm ?_
    refine aw_geN (t := 91) dX8_certify_70 (by decide) (by omega) (by omega) (fun h1 => ?_) (fun h1 => ?_)
    · skip
      refine aw_aload_n dX8_certify_91 rfl ?_
      refine aw_iload_n dX8_certify_92 rfl ?_
      refine aw_iconst (v := nI 1) dX8_certify_93 (by decide) ?_
      refine aw_aload_n dX8_certify_94 rfl ?_
      refine aw_getIv (v := nI n) dX8_certify_95 flX8_7 hM.o hn ?_
      refine aw_pc (pc2 := 98) rfl ?_
      refine aw_aload_n dX8_certify_98 rfl ?_
      refine aw_getIv (v := nI m) dX8_certify_99 flX8_88 hM.o hm ?_
      refine aw_iaddN dX8_certify_102 ?_
      refine aw_iconst (v := nI 1) dX8_certify_103 (by decide) ?_
      refine aw_iaddN dX8_certify_104 ?_
      refine aw_cvV (As := [_, _, _]) (d' := d - 1) dX8_certify_105 lkX8_254 hM.o (by omega) rfl rfl (Nat.le_of_ble_eq_true rfl) ⟨Nat.le_refl _, Nat.le_refl _⟩ (tX8_becomesRow hM hs ?_)
      refine aw_pc (pc2 := 108) rfl ?_
      refine aw_iconst (v := nI 0) dX8_certify_108 (by decide) ?_
      refine aw_istore dX8_certify_109 (by decide) ?_
      refine aw_lv (lv2 := [.ref _, .int _, .int _, .long _, .null, .int _]) rfl ?_
      rw [show i = m from by omega, if_neg (by decide)]
      refine aw_toM rfl (aw_wr_0 (aw_fr J0 83 (12 * s) 12 0) 83 (12 * s) (fun i => (rx_v I0 n m w t) i / (rp_g1 (rp_g1 (rx_b I0 n m w) (rx_v I0 n m w t) n) (rx_y I0 n m w t) m))) ?_
      exact lX8_certify3 hM (by rw [aw_up_off _ _ (by decide), aw_up_off _ _ (by decide)]; exact hn) hn3 (by rw [aw_up_off _ _ (by decide), aw_up_off _ _ (by decide)]; exact hm) hm6 hs hA hbn (by omega) hQ (n + 1) 0 (by omega) (by omega)
    · skip
      refine aw_aload_n dX8_certify_73 rfl ?_
      refine aw_getR dX8_certify_74 flX8_39 hM.o hM.p17 ?_
      refine aw_iload dX8_certify_77 rfl ?_
      refine aw_laldv (v := (rx_y I0 n m w t) i) dX8_certify_79 hM.s17 rfl (by omega) (hA.2.2 i (by omega)) ?_
      refine aw_lload_n dX8_certify_80 rfl ?_
      refine aw_pc (pc2 := 81) rfl ?_
      refine aw_csL (As := [_, _]) (d' := d - 1) dX8_certify_81 lkX8_71 (by omega) rfl rfl (Nat.le_of_ble_eq_true rfl) ⟨Nat.le_refl _, Nat.le_refl _⟩ (tX8_dv ?_)
      refine aw_lstore_n dX8_certify_84 (by decide) ?_
      refine aw_lv (lv2 := [.ref _, .int _, .int _, .long _, .null, .int _]) rfl ?_
      refine aw_iincN dX8_certify_85 rfl (by decide) ?_
      refine aw_lv (lv2 := [.ref _, .int _, .int _, .long _, .null, .int _]) rfl ?_
      refine aw_goto (t := 64) dX8_certify_88 (by decide) ?_
      exact ih (i + 1) (by omega) (by omega)
theorem lX8_certify1 {G : aw_G} {d : Nat} {Ω : aw_O} {I : aw_MI} {Q : Int32 → aw_O → aw_MI → aw_MJ → Prop} {n m w s : Nat} {t : Int32} {I0 : aw_MI} {J0 : aw_MJ} (hM : aw_model Ω 65) (hn : I 65 0 = nI n) (hn3 : n ≤ 3) (hm : I 65 4 = nI m) (hm6 : m ≤ 6) (hs : s < 4) (hA : rx_At I0 n m w t J0) (hbn : ¬ rx_b I0 n m w = 0) (hd : 2 ≤ d) {v : Int32} (hQ : Q (nI (n + m + 1)) Ω (aw_up (aw_up I 81 s (nI 1)) 82 s (nI (n + m + 1))) (aw_up (aw_wr (aw_wr (aw_fr J0 83 (12 * s) 12 0) 83 (12 * s) n (fun i => (rx_v I0 n m w t) i / (rp_g1 (rp_g1 (rx_b I0 n m w) (rx_v I0 n m w t) n) (rx_y I0 n m w t) m))) 83 (12 * s + n) m (fun l => (rx_y I0 n m w t) l / (rp_g1 (rp_g1 (rx_b I0 n m w) (rx_v I0 n m w t) n) (rx_y I0 n m w t) m))) 83 (12 * s + n + m) ((rx_b I0 n m w) / (rp_g1 (rp_g1 (rx_b I0 n m w) (rx_v I0 n m w t) n) (rx_y I0 n m w t) m)))) : ∀ (z i : Nat), i ≤ n → n - i < z → AW G MX8_certify (aw_nx Ω) d 0 0 (aw_QI Q) Ω I J0 0 0 [.ref (aw_ad G 65), .int (nI s), .int v, .long (rp_g1 (rx_b I0 n m w) (rx_v I0 n m w t) i), .null, .int (nI i)] 34 [] := by
  intro z
  induction z with
  | zero =>
    intro i h0 hz
    exact absurd hz (by omega)
  | succ z ih =>
    intro i h0 hz
    refine aw_iload dX8_certify_34 rfl ?_
    refine aw_aload_n dX8_certify_36 rfl ?_
    refine aw_getIv (v := nI n) dX8_certify_37 flX8_7 hM.o hn ?_
    refine aw_geN (t := 61) dX8_certify_40 (by decide) (by omega) (by omega) (fun h1 => ?_) (fun h1 => ?_)
    · skip
      refine aw_iconst (v := nI 0) dX8_certify_61 (by decide) ?_
      refine aw_istore dX8_certify_62 (by decide) ?_
      refine aw_lv (lv2 := [.ref _, .int _, .int _, .long _, .null, .int _]) rfl ?_
      rw [show i = n from by omega]
      exact lX8_certify2 hM hn hn3 hm hm6 hs hA hbn hd hQ (m + 1) 0 (by omega) (by omega)
    · skip
      refine aw_aload_n dX8_certify_43 rfl ?_
      refine aw_getR dX8_certify_44 flX8_36 hM.o hM.p16 ?_
      refine aw_iload dX8_certify_47 rfl ?_
      refine aw_laldv (v := (rx_v I0 n m w t) i) dX8_certify_49 hM.s16 rfl (by omega) (hA.2.1 i (by omega)) ?_
      refine aw_lload_n dX8_certify_50 rfl ?_
      refine aw_pc (pc2 := 51) rfl ?_
      refine aw_csL (As := [_, _]) (d' := d - 1) dX8_certify_51 lkX8_71 (by omega) rfl rfl (Nat.le_of_ble_eq_true rfl) ⟨Nat.le_refl _, Nat.le_refl _⟩ (tX8_dv ?_)
      refine aw_lstore_n dX8_certify_54 (by decide) ?_
      refine aw_lv (lv2 := [.ref _, .int _, .int _, .long _, .null, .int _]) rfl ?_
      refine aw_iincN dX8_certify_55 rfl (by decide) ?_
      refine aw_lv (lv2 := [.ref _, .int _, .int _, .long _, .null, .int _]) rfl ?_
      refine aw_goto (t := 34) dX8_certify_58 (by decide) ?_
      exact ih (i + 1) (by omega) (by omega)
def cq_P (I : aw_MI) (J J' : aw_MJ) (n m w s : Nat) (t : Int32) : Prop := (∀ i, i < n → J' 83 (12 * s + i) = rx_v I n m w t i / (rp_g1 (rp_g1 (rx_b I n m w) (rx_v I n m w t) n) (rx_y I n m w t) m)) ∧ (∀ l, l < m → J' 83 (12 * s + n + l) = rx_y I n m w t l / (rp_g1 (rp_g1 (rx_b I n m w) (rx_v I n m w t) n) (rx_y I n m w t) m)) ∧ J' 83 (12 * s + n + m) = rx_b I n m w / (rp_g1 (rp_g1 (rx_b I n m w) (rx_v I n m w t) n) (rx_y I n m w t) m) ∧ (∀ j, n + m < j → j < 12 → J' 83 (12 * s + j) = 0) ∧ (∀ j, j < 12 * s ∨ 12 * s + 12 ≤ j → J' 83 j = J 83 j) ∧ ∀ a k, a ≠ 83 → J' a k = J a k
theorem cq_mk {I0 : aw_MI} {J0 : aw_MJ} {n m w s : Nat} {t : Int32} (hn : n ≤ 3) (hm : m ≤ 6) : cq_P I0 J0 (aw_up (aw_wr (aw_wr (aw_fr J0 83 (12 * s) 12 0) 83 (12 * s) n (fun i => (rx_v I0 n m w t) i / (rp_g1 (rp_g1 (rx_b I0 n m w) (rx_v I0 n m w t) n) (rx_y I0 n m w t) m))) 83 (12 * s + n) m (fun l => (rx_y I0 n m w t) l / (rp_g1 (rp_g1 (rx_b I0 n m w) (rx_v I0 n m w t) n) (rx_y I0 n m w t) m))) 83 (12 * s + n + m) ((rx_b I0 n m w) / (rp_g1 (rp_g1 (rx_b I0 n m w) (rx_v I0 n m w t) n) (rx_y I0 n m w t) m))) n m w s t := by
  refine ⟨fun i hi => ?_, fun l hl => ?_, aw_up_self _ _ _ _, fun j h1 h2 => ?_, fun j h1 => ?_, fun a k h1 => ?_⟩
  · rw [aw_up_ne _ _ (by omega), aw_wr_lo _ _ (by omega), aw_wr_in _ _ hi]
  · rw [aw_up_ne _ _ (by omega), aw_wr_in _ _ hl]
  · rw [aw_up_ne _ _ (by omega), aw_wr_at _ _ (by omega), aw_wr_at _ _ (by omega)]
    unfold aw_fr
    rw [if_pos (by omega)]
  · have e1 : (aw_up (aw_wr (aw_wr (aw_fr J0 83 (12 * s) 12 0) 83 (12 * s) n (fun i => (rx_v I0 n m w t) i / (rp_g1 (rp_g1 (rx_b I0 n m w) (rx_v I0 n m w t) n) (rx_y I0 n m w t) m))) 83 (12 * s + n) m (fun l => (rx_y I0 n m w t) l / (rp_g1 (rp_g1 (rx_b I0 n m w) (rx_v I0 n m w t) n) (rx_y I0 n m w t) m))) 83 (12 * s + n + m) ((rx_b I0 n m w) / (rp_g1 (rp_g1 (rx_b I0 n m w) (rx_v I0 n m w t) n) (rx_y I0 n m w t) m))) 83 j = (aw_fr J0 83 (12 * s) 12 0) 83 j := by
      rw [aw_up_ne _ _ (by omega)]
      rcases h1 with h1 | h1
      · rw [aw_wr_lo _ _ (by omega), aw_wr_lo _ _ (by omega)]
      · rw [aw_wr_at _ _ (by omega), aw_wr_at _ _ (by omega)]
    rw [e1]
    unfold aw_fr
    rw [if_neg (by omega)]
  · rw [aw_up_off _ _ h1, aw_wr_off _ _ h1, aw_wr_off _ _ h1, aw_fr_off _ _ h1]
theorem tX8_certify {G : aw_G} {d : Nat} {Ω : aw_O} {I : aw_MI} {J : aw_MJ} {Q : Int32 → aw_O → aw_MI → aw_MJ → Prop} {n m : Nat} (hM : aw_model Ω 65) (hn : I 65 0 = nI n) (hn3 : n ≤ 3) (hm : I 65 4 = nI m) (hm6 : m ≤ 6) {x : Int32} (hd : 7 ≤ d) (kB : sp_var x 4 = 0 → Q (-2) Ω I J) (kS : ∀ I' J', ¬ sp_var x 4 = 0 → rp_ac (I 66) n = 0 → mr_I I I' → mr_J J J' → Q (-3) Ω I' J') (kN : ∀ I' J', ¬ sp_var x 4 = 0 → ¬ rp_ac (I 66) n = 0 → mr_I I I' → mr_J J J' → rx_res I n m (2 ^ m - 1) = -1 → Q (-1) Ω I' J') (hQ : ∀ s w I1 J1 J', x = nI s → s < 4 → ¬ rp_ac (I 66) n = 0 → w < 2 ^ m → mr_I I I1 → mr_J J J1 → rx_gb I n m (nI (2 ^ m - 1)) (I 65 3) w = true → rx_res I n m (2 ^ m - 1) = nI w → cq_P I J1 J' n m w s (I 65 3) → Q (nI (n + m + 1)) Ω (aw_up (aw_up I1 81 s (nI 1)) 82 s (nI (n + m + 1))) J') : aw_Call G MX8_certify d 0 0 [.ref (aw_ad G 65), .int x] Ω I J (aw_QI Q) := by
  refine aw_enter (by decide +kernel) rfl (Nat.le_of_ble_eq_true rfl) ?_
  show AW G MX8_certify (aw_nx Ω) d 0 0 (aw_QI Q) Ω I J 0 0 [.ref (aw_ad G 65), .int x, .null, .null, .null, .null] 0 []
  refine aw_iload_n dX8_certify_0 rfl ?_
  refine aw_csI (As := [_]) (d' := d - 1) dX8_certify_1 lkX8_251 (by omega) rfl rfl (Nat.le_of_ble_eq_true rfl) ⟨Nat.le_refl _, Nat.le_refl _⟩ (tX8_isSheet (by omega) ?_)
  refine aw_if_ne (t := 10) dX8_certify_4 (by decide) (fun h1 => ?_) (fun h1 => ?_)
  · skip
    obtain ⟨s, hs, hxs⟩ := sp_var1 h1
    subst hxs
    refine aw_aload_n dX8_certify_10 rfl ?_
    refine aw_aload_n dX8_certify_11 rfl ?_
    refine aw_cvI (As := []) (d' := d - 1) dX8_certify_12 lkX8_220 hM.o (by omega) rfl rfl (Nat.le_of_ble_eq_true rfl) ⟨Nat.le_refl _, Nat.le_refl _⟩ (tX8_all hM hm ?_)
    refine aw_toI (sp_all_nI m (by omega)) ?_
    refine aw_iconst (v := nI 1) dX8_certify_15 (by decide) ?_
    refine aw_cvI (As := [_, _]) (d' := d - 1) dX8_certify_16 lkX8_196 hM.o (by omega) rfl rfl (Nat.le_of_ble_eq_true rfl) ⟨Nat.le_refl _, Nat.le_refl _⟩ (tX8_lacksA hM hn hn3 hm hm6 (by omega) ?_ ?_ ?_)
    · skip
      intro I1 J1 p0 fI1 fJ1
      refine aw_istore_n dX8_certify_19 (by decide) ?_
      refine aw_lv (lv2 := [.ref _, .int _, .int _, .null, .null, .null]) rfl ?_
      refine aw_iload_n dX8_certify_20 rfl ?_
      refine aw_if_eq (t := 26) dX8_certify_21 (by decide) (fun h2 => absurd h2 (by decide)) (fun h2 => ?_)
      refine aw_iload_n dX8_certify_24 rfl ?_
      exact aw_iret dX8_certify_25 rfl (kS I1 J1 h1 p0 fI1 fJ1) (Nat.zero_le _) (Nat.zero_le _)
    · skip
      intro I1 J1 p0 fI1 fJ1 f1
      refine aw_istore_n dX8_certify_19 (by decide) ?_
      refine aw_lv (lv2 := [.ref _, .int _, .int _, .null, .null, .null]) rfl ?_
      refine aw_iload_n dX8_certify_20 rfl ?_
      refine aw_if_eq (t := 26) dX8_certify_21 (by decide) (fun h3 => absurd h3 (by decide)) (fun h3 => ?_)
      refine aw_iload_n dX8_certify_24 rfl ?_
      exact aw_iret dX8_certify_25 rfl (kN I1 J1 h1 p0 fI1 fJ1 f1) (Nat.zero_le _) (Nat.zero_le _)
    · skip
      intro w I1 J1 p0 hw fI1 fJ1 g1 A1 f1
      have hn1 : I1 65 0 = nI n := by rw [fI1 65 0 (by decide) (by decide)]; exact hn
      have hm1 : I1 65 4 = nI m := by rw [fI1 65 4 (by decide) (by decide)]; exact hm
      have ht1 : I1 65 3 = I 65 3 := fI1 65 3 (by decide) (by decide)
      have hE1 := fI1.E
      have bne := rx_bne g1
      refine aw_istore_n dX8_certify_19 (by decide) ?_
      refine aw_lv (lv2 := [.ref _, .int _, .int _, .null, .null, .null]) rfl ?_
      refine aw_iload_n dX8_certify_20 rfl ?_
      refine aw_if_eq (t := 26) dX8_certify_21 (by decide) (fun h4 => ?_) (fun h4 => absurd h4 (by decide))
      refine aw_aload_n dX8_certify_26 rfl ?_
      refine aw_getJ dX8_certify_27 flX8_161 hM.o ?_
      refine aw_toL A1.1 ?_
      refine aw_pc (pc2 := 30) rfl ?_
      refine aw_lstore_n dX8_certify_30 (by decide) ?_
      refine aw_lv (lv2 := [.ref _, .int _, .int _, .long _, .null, .null]) rfl ?_
      refine aw_iconst (v := nI 0) dX8_certify_31 (by decide) ?_
      refine aw_istore dX8_certify_32 (by decide) ?_
      refine aw_lv (lv2 := [.ref _, .int _, .int _, .long _, .null, .int _]) rfl ?_
      exact lX8_certify1 (I0 := I) (t := I 65 3) hM hn1 hn3 hm1 hm6 hs A1 bne (by omega) (hQ s w I1 J1 _ rfl hs p0 hw fI1 fJ1 g1 f1 (cq_mk hn3 hm6)) (n + 1) 0 (by omega) (by omega)
  · skip
    refine aw_bipush (v := -2) dX8_certify_7 (by decide) ?_
    exact aw_iret dX8_certify_9 rfl (kB h1) (Nat.zero_le _) (Nat.zero_le _)

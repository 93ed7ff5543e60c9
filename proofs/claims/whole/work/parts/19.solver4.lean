/-! THE SOLVER: meet, layAt, find -/
def sv_I (s : Nat) (I I' : aw_MI) : Prop := (∀ a, a < s ∨ s + 17 ≤ a → I' a = I a) ∧ I' (s + 7) = I (s + 7) ∧ I' (s + 16) = I (s + 16) ∧ I' s 4 = I s 4
def sv_J (s : Nat) (J J' : aw_MJ) : Prop := ∀ a, a < s ∨ s + 17 ≤ a → J' a = J a
theorem sv_I.rf {s : Nat} {I : aw_MI} : sv_I s I I := ⟨fun _ _ => rfl, rfl, rfl, rfl⟩
theorem sv_J.rf {s : Nat} {J : aw_MJ} : sv_J s J J := fun _ _ => rfl
theorem sv_I.tr {s : Nat} {I I' I2 : aw_MI} (h : sv_I s I I') (g : sv_I s I' I2) : sv_I s I I2 := ⟨fun a ha => (g.1 a ha).trans (h.1 a ha), g.2.1.trans h.2.1, g.2.2.1.trans h.2.2.1, g.2.2.2.trans h.2.2.2⟩
theorem sv_J.tr {s : Nat} {J J' J2 : aw_MJ} (h : sv_J s J J') (g : sv_J s J' J2) : sv_J s J J2 := fun a ha => (g a ha).trans (h a ha)
theorem sf_sv {s : Nat} {I I' : aw_MI} (h : sf_I s I I') : sv_I s I I' := ⟨fun a ha => funext fun k => h a k (by omega), funext fun k => h _ k (by omega), funext fun k => h _ k (by omega), h s 4 (by omega)⟩
theorem sp_rw_c {s c l : Nat} {I I' : aw_MI} (h : ∀ a, a < s → I' a = I a) (hc : c + 6 < s) : sp_rw I' c l = sp_rw I c l := by
  funext i
  simp only [sp_rw, h (c + 3) (by omega), h (c + 6) (by omega)]
theorem sp_bd_c {s c l : Nat} {v : Int32} {I I' : aw_MI} (h : ∀ a, a < s → I' a = I a) (hc : c + 6 < s) : sp_bd I' c l v = sp_bd I c l v := by
  simp only [sp_bd, h (c + 3) (by omega), h (c + 4) (by omega), h (c + 5) (by omega)]
theorem sp_mat_c {s c n w : Nat} {mb : Nat → Nat} {I I' : aw_MI} (h : ∀ a, a < s → I' a = I a) (hc : c + 6 < s) : sp_mat I' c n w mb = sp_mat I c n w mb := by
  funext r k
  simp only [sp_mat, sp_dft, sp_rw_c h hc, sp_bd_c h hc, h (c + 1) (by omega), h (c + 2) (by omega)]
/-- a set's lines, how many, its rows -/
def cx_mb (w m : Nat) (j : Nat) : Nat := (sp_mb (nI w) m).getD j 0
def cx_n (w m : Nat) : Nat := (sp_mb (nI w) m).length
def cx_M (I : aw_MI) (c n m w : Nat) : Nat → Nat → Int64 := sp_mat I c n (n + cx_n w m) (cx_mb w m)
def cx_ok (I : aw_MI) (c n m w : Nat) : Prop := cx_n w m ≤ n ∧ ce_ok (cx_M I c n m w) 0 (n + cx_n w m) = nI 1
def cx_S (I : aw_MI) (c n m w : Nat) : (Nat → Nat → Int64) × Int64 := ce_S (cx_M I c n m w) (n + cx_n w m)
theorem cx_M_c {s c n m w : Nat} {I I' : aw_MI} (h : ∀ a, a < s → I' a = I a) (hc : c + 6 < s) : cx_M I' c n m w = cx_M I c n m w := sp_mat_c h hc

theorem tX6_meet {G : aw_G} {d : Nat} {Ω : aw_O} {I : aw_MI} {J : aw_MJ} {Q : Int32 → aw_O → aw_MI → aw_MJ → Prop} {s c n m w : Nat} (hS : aw_solver Ω s c) (hn : I c 0 = nI n) (hn3 : n ≤ 3) (hm : I c 2 = nI m) (hm6 : m ≤ 6) (hcs : c + 6 < s) (hw : w < 2 ^ m) (hd : 3 ≤ d) (hF : ∀ I' J', sv_I s I I' → sv_J s J J' → ¬ cx_ok I c n m w → Q (nI 0) Ω I' J') (hQ : ∀ I' J', sv_I s I I' → sv_J s J J' → cx_ok I c n m w → I' s 11 = nI (n + cx_n w m) → (∀ j, j < cx_n w m → I' (s + 15) j = nI (cx_mb w m j)) → (∀ r k, r < n + cx_n w m → k < n + cx_n w m + 2 → J' (s + 9 + r) k = (cx_S I c n m w).1 r k) → J' s 12 = (cx_S I c n m w).2 → Q (nI 1) Ω I' J') : aw_Call G MX6_meet d 0 0 [.ref (aw_ad G s), .int (nI w)] Ω I J (aw_QI Q) := by
  refine aw_enter (by decide +kernel) rfl (Nat.le_of_ble_eq_true rfl) ?_
  show AW G MX6_meet (aw_nx Ω) d 0 0 (aw_QI Q) Ω I J 0 0 [.ref (aw_ad G s), .int (nI w)] 0 []
  have hw64 : w < 64 := Nat.lt_of_lt_of_le hw (Nat.pow_le_pow_right (by decide) hm6 : 2 ^ m ≤ 2 ^ 6)
  have hbc : sp_bc (nI w) = nI (cx_n w m) := by rw [sp_bc_ok w hw64, cx_n, sp_mb_m m (by omega) w hw]
  have hc6 : cx_n w m ≤ 6 := by rw [cx_n, sp_mb_m m (by omega) w hw]; exact (show ∀ w, w < 64 → (sp_mb (nI w) 6).length ≤ 6 by decide +kernel) w hw64
  refine aw_iload_n dX6_meet_0 rfl ?_
  refine aw_csI (As := [_]) (d' := d - 1) dX6_meet_1 lkX6_51 (by omega) rfl rfl (Nat.le_of_ble_eq_true rfl) ⟨Nat.le_refl _, Nat.le_refl _⟩ (tJ6_bitCount_0f7a4 ?_)
  refine aw_toI hbc ?_
  refine aw_aload_n dX6_meet_4 rfl ?_
  refine aw_getR dX6_meet_5 flX6_36 hS.o hS.p0 ?_
  refine aw_getIv (v := nI n) dX6_meet_8 flX6_57 hS.q0.o hn ?_
  refine aw_pc (pc2 := 11) rfl ?_
  refine aw_leN (t := 16) dX6_meet_11 (by decide) (by omega) (by omega) (fun h1 => ?_) (fun h1 => ?_)
  · skip
    refine aw_aload_n dX6_meet_16 rfl ?_
    refine aw_iload_n dX6_meet_17 rfl ?_
    refine aw_cvV (As := [_]) (d' := d - 1) dX6_meet_18 lkX6_63 hS.o (by omega) rfl rfl (Nat.le_of_ble_eq_true rfl) ⟨Nat.le_refl _, Nat.le_refl _⟩ (tX6_gather hS hn hn3 hm hm6 hcs (by show cx_n w m ≤ 3; omega) ?_)
    · skip
      intro I1 f1 g1 w1
      have v1 := sf_sv f1
      have hn1 : I1 c 0 = nI n := by rw [v1.1 c (by omega)]; exact hn
      have hmb1 : ∀ j, j < n + cx_n w m - n → I1 (s + 15) j = nI (cx_mb w m j) ∧ cx_mb w m j < 6 := fun j hj => ⟨g1 j (by show j < cx_n w m; omega), Nat.lt_of_lt_of_le (sp_mb_lt (by show j < cx_n w m; omega)) hm6⟩
      have hM1 : sp_mat I1 c n (n + cx_n w m) (cx_mb w m) = cx_M I c n m w := sp_mat_c (fun a ha => v1.1 a (Or.inl ha)) hcs
      refine aw_aload_n dX6_meet_21 rfl ?_
      refine aw_cvV (As := []) (d' := d - 1) dX6_meet_22 lkX6_66 hS.o (by omega) rfl rfl (Nat.le_of_ble_eq_true rfl) ⟨Nat.le_refl _, Nat.le_refl _⟩ (tX6_fillBowlRows (n := n) (w := n + cx_n w m) (mb := cx_mb w m) hS hn1 hn3 w1 (by omega) (by omega) (by omega) hmb1 (by omega) ?_)
      · skip
        intro J1 r1 e1
        refine aw_aload_n dX6_meet_25 rfl ?_
        refine aw_cvV (As := []) (d' := d - 1) dX6_meet_26 lkX6_69 hS.o (by omega) rfl rfl (Nat.le_of_ble_eq_true rfl) ⟨Nat.le_refl _, Nat.le_refl _⟩ (tX6_fillLineRows (n := n) (w := n + cx_n w m) (mb := cx_mb w m) hS hn1 hn3 w1 (by omega) (by omega) (by omega) hmb1 (by omega) r1 ?_)
        · skip
          intro J2 r2 e2
          rw [hM1] at r2
          refine aw_aload_n dX6_meet_29 rfl ?_
          refine aw_cvI (As := []) (d' := d - 1) dX6_meet_30 lkX6_72 hS.o (by omega) rfl rfl (Nat.le_of_ble_eq_true rfl) ⟨Nat.le_refl _, Nat.le_refl _⟩ (tX6_eliminate (w := n + cx_n w m) (M := cx_M I c n m w) hS w1 (by omega) (by omega) r2 ?_ ?_)
          · skip
            intro J3 e3 k3
            exact aw_zret dX6_meet_33 rfl (by decide) (hF I1 J3 v1 (fun a ha => by rw [e3 a (by omega), e2 a (by omega), e1 a (by omega)]) (fun q => absurd (q.2.symm.trans k3) (by decide))) (Nat.zero_le _) (Nat.zero_le _)
          · skip
            intro J3 e3 r3 k3
            exact aw_zret dX6_meet_33 rfl (by decide) (hQ I1 _ v1 (fun a ha => by rw [aw_up_off J3 _ (by omega), e3 a (by omega), e2 a (by omega), e1 a (by omega)]) ⟨by omega, k3⟩ w1 (fun j hj => (hmb1 j (by omega)).1) (fun r k h8 h9 => by rw [aw_up_off J3 _ (by omega)]; exact r3 r k h8 h9) (aw_up_self _ _ _ _)) (Nat.zero_le _) (Nat.zero_le _)
  · skip
    refine aw_iconst (v := nI 0) dX6_meet_14 (by decide) ?_
    exact aw_zret dX6_meet_15 rfl (by decide) (hF I J sv_I.rf sv_J.rf (fun q => absurd q.1 (by omega))) (Nat.zero_le _) (Nat.zero_le _)
def sp_sg (b : Int64) : Int32 := if b < 0 then -1 else nI 1
def sp_wt (mb : Nat → Nat) (f : Nat → Int64) : Nat → Nat → Int64
  | 0, _ => 0
  | j + 1, l => if l = mb j then f j else sp_wt mb f j l
def la_P (u v : Nat → Int64) (mb : Nat → Nat) (n s : Nat) (J0 J : aw_MJ) (r : Nat) : Prop := (∀ i, i < n → i < r → J (s + 2) i = v i ∧ J (s + 5) i = u i) ∧ (∀ l, l < 6 → J (s + 3) l = sp_wt mb (fun j => v (n + j)) (r - n) l ∧ J (s + 6) l = sp_wt mb (fun j => u (n + j)) (r - n) l) ∧ ∀ a, a ≠ s + 2 → a ≠ s + 3 → a ≠ s + 5 → a ≠ s + 6 → J a = J0 a
theorem la_x {u v : Nat → Int64} {mb : Nat → Nat} {n s : Nat} {J0 J : aw_MJ} {r : Nat} (h : la_P u v mb n s J0 J r) (hr : r < n) {a b : Int64} (ha : a = v r) (hb : b = u r) : la_P u v mb n s J0 (aw_up (aw_up J (s + 2) r a) (s + 5) r b) (r + 1) := by
  refine ⟨fun i h1 h2 => ?_, fun l hl => ?_, fun q h1 h2 h3 h4 => ?_⟩
  · by_cases e : i = r
    · subst e
      refine ⟨?_, ?_⟩
      · rw [aw_up_off _ _ (by omega), aw_up_self, ha]
      · rw [aw_up_self, hb]
    · refine ⟨?_, ?_⟩
      · rw [aw_up_off _ _ (by omega), aw_up_ne _ _ (Or.inr e)]
        exact (h.1 i h1 (by omega)).1
      · rw [aw_up_ne _ _ (Or.inr e), aw_up_off _ _ (by omega)]
        exact (h.1 i h1 (by omega)).2
  · rw [aw_up_off _ _ (by omega), aw_up_off _ _ (by omega), aw_up_off _ _ (by omega), aw_up_off _ _ (by omega), show r + 1 - n = r - n by omega]
    exact h.2.1 l hl
  · rw [aw_up_off _ _ h3, aw_up_off _ _ h1]
    exact h.2.2 q h1 h2 h3 h4
theorem la_y {u v : Nat → Int64} {mb : Nat → Nat} {n s : Nat} {J0 J : aw_MJ} {r : Nat} (h : la_P u v mb n s J0 J r) (hr : n ≤ r) {a b : Int64} (ha : a = v r) (hb : b = u r) : la_P u v mb n s J0 (aw_up (aw_up J (s + 3) (mb (r - n)) a) (s + 6) (mb (r - n)) b) (r + 1) := by
  have e1 : r + 1 - n = (r - n) + 1 := by omega
  have e2 : n + (r - n) = r := by omega
  refine ⟨fun i h1 h2 => ?_, fun l hl => ?_, fun q h1 h2 h3 h4 => ?_⟩
  · rw [aw_up_off _ _ (by omega), aw_up_off _ _ (by omega), aw_up_off _ _ (by omega), aw_up_off _ _ (by omega)]
    exact h.1 i h1 (by omega)
  · rw [e1]
    unfold sp_wt
    by_cases e : l = mb (r - n)
    · rw [if_pos e, if_pos e, e2]
      refine ⟨?_, ?_⟩
      · rw [aw_up_off _ _ (by omega), e, aw_up_self, ha]
      · rw [e, aw_up_self, hb]
    · rw [if_neg e, if_neg e]
      refine ⟨?_, ?_⟩
      · rw [aw_up_off _ _ (by omega), aw_up_ne _ _ (Or.inr e)]
        exact (h.2.1 l hl).1
      · rw [aw_up_ne _ _ (Or.inr e), aw_up_off _ _ (by omega)]
        exact (h.2.1 l hl).2
  · rw [aw_up_off _ _ h4, aw_up_off _ _ h2]
    exact h.2.2 q h1 h2 h3 h4
theorem lX6_layAt {G : aw_G} {d : Nat} {Ω : aw_O} {I : aw_MI} {Q : aw_O → aw_MI → aw_MJ → Prop} {s c n w : Nat} {t sg : Int32} {u v : Nat → Int64} {mb : Nat → Nat} {J0 : aw_MJ} (hS : aw_solver Ω s c) (hw : I s 11 = nI w) (hnw : n ≤ w) (hw3 : w ≤ n + 3) (hn3 : n ≤ 3) (hmb : ∀ j, j < w - n → I (s + 15) j = nI (mb j) ∧ mb j < 6) (hu : ∀ r, r < w → u r = sg.toInt64 * J0 (s + 9 + r) (w + 1)) (hv : ∀ r, r < w → v r = sg.toInt64 * J0 (s + 9 + r) w + t.toInt64 * u r) (hQ : ∀ J', la_P u v mb n s J0 J' w → Q Ω I J') : ∀ (z r : Nat) (J : aw_MJ), r ≤ w → w - r < z → la_P u v mb n s J0 J r → AW G MX6_layAt (aw_nx Ω) d 0 0 (aw_QV Q) Ω I J 0 0 [.ref (aw_ad G s), .int t, .int sg, .int (nI n), .int (nI r), .null, .null, .null, .null] 81 [] := by
  intro z
  induction z with
  | zero =>
    intro r J h0 hz hP
    exact absurd hz (by omega)
  | succ z ih =>
    intro r J h0 hz hP
    refine aw_iload dX6_layAt_81 rfl ?_
    refine aw_aload_n dX6_layAt_83 rfl ?_
    refine aw_getIv (v := nI w) dX6_layAt_84 flX6_79 hS.o hw ?_
    refine aw_geN (t := 209) dX6_layAt_87 (by decide) (by first | omega | exact (hmb (r - n) (by omega)).2) (by first | omega | exact (hmb (r - n) (by omega)).2) (fun h1 => ?_) (fun h1 => ?_)
    · skip
      have e1 : r = w := by omega
      subst e1
      exact aw_vret dX6_layAt_209 rfl (hQ J hP) (Nat.zero_le _) (Nat.zero_le _)
    · skip
      refine aw_iload_n dX6_layAt_90 rfl ?_
      refine aw_i2l dX6_layAt_91 ?_
      refine aw_aload_n dX6_layAt_92 rfl ?_
      refine aw_getR dX6_layAt_93 flX6_27 hS.o hS.p7 ?_
      refine aw_iload dX6_layAt_96 rfl ?_
      refine aw_pc (pc2 := 98) rfl ?_
      refine aw_aald dX6_layAt_98 hS.s7 rfl (by first | omega | exact (hmb (r - n) (by omega)).2) ((hS.r r (by omega)).1) ?_
      refine aw_aload_n dX6_layAt_99 rfl ?_
      refine aw_getIv (v := nI w) dX6_layAt_100 flX6_79 hS.o hw ?_
      refine aw_iconst (v := nI 1) dX6_layAt_103 (by decide) ?_
      refine aw_iaddN dX6_layAt_104 ?_
      refine aw_laldv (v := J0 (s + 9 + r) (w + 1)) dX6_layAt_105 (hS.r r (by omega)).2 rfl (by first | omega | exact (hmb (r - n) (by omega)).2) (by rw [hP.2.2 _ (by omega) (by omega) (by omega) (by omega)]) ?_
      refine aw_pc (pc2 := 106) rfl ?_
      refine aw_lmul dX6_layAt_106 ?_
      refine aw_lstore dX6_layAt_107 (by decide) ?_
      refine aw_lv (lv2 := [.ref _, .int _, .int _, .int _, .int _, .long _, .null, .null, .null]) rfl ?_
      refine aw_iload_n dX6_layAt_109 rfl ?_
      refine aw_i2l dX6_layAt_110 ?_
      refine aw_aload_n dX6_layAt_111 rfl ?_
      refine aw_getR dX6_layAt_112 flX6_27 hS.o hS.p7 ?_
      refine aw_pc (pc2 := 115) rfl ?_
      refine aw_iload dX6_layAt_115 rfl ?_
      refine aw_aald dX6_layAt_117 hS.s7 rfl (by first | omega | exact (hmb (r - n) (by omega)).2) ((hS.r r (by omega)).1) ?_
      refine aw_aload_n dX6_layAt_118 rfl ?_
      refine aw_getIv (v := nI w) dX6_layAt_119 flX6_79 hS.o hw ?_
      refine aw_laldv (v := J0 (s + 9 + r) w) dX6_layAt_122 (hS.r r (by omega)).2 rfl (by first | omega | exact (hmb (r - n) (by omega)).2) (by rw [hP.2.2 _ (by omega) (by omega) (by omega) (by omega)]) ?_
      refine aw_lmul dX6_layAt_123 ?_
      refine aw_pc (pc2 := 124) rfl ?_
      refine aw_iload_n dX6_layAt_124 rfl ?_
      refine aw_i2l dX6_layAt_125 ?_
      refine aw_lload dX6_layAt_126 rfl ?_
      refine aw_lmul dX6_layAt_128 ?_
      refine aw_ladd dX6_layAt_129 ?_
      refine aw_lstore dX6_layAt_130 (by decide) ?_
      refine aw_lv (lv2 := [.ref _, .int _, .int _, .int _, .int _, .long _, .null, .long _, .null]) rfl ?_
      refine aw_pc (pc2 := 132) rfl ?_
      refine aw_iload dX6_layAt_132 rfl ?_
      refine aw_iload_n dX6_layAt_134 rfl ?_
      refine aw_geN (t := 165) dX6_layAt_135 (by decide) (by first | omega | exact (hmb (r - n) (by omega)).2) (by first | omega | exact (hmb (r - n) (by omega)).2) (fun h2 => ?_) (fun h2 => ?_)
      · skip
        refine aw_aload_n dX6_layAt_165 rfl ?_
        refine aw_getR dX6_layAt_166 flX6_12 hS.o hS.p1 ?_
        refine aw_getR dX6_layAt_169 flX6_116 hS.q1.o hS.q1.p1 ?_
        refine aw_aload_n dX6_layAt_172 rfl ?_
        refine aw_getR dX6_layAt_173 flX6_30 hS.o hS.p8 ?_
        refine aw_pc (pc2 := 176) rfl ?_
        refine aw_iload dX6_layAt_176 rfl ?_
        refine aw_iload_n dX6_layAt_178 rfl ?_
        refine aw_isubN dX6_layAt_179 (by first | omega | exact (hmb (r - n) (by omega)).2) ?_
        refine aw_ialdv (v := nI (mb (r - n))) dX6_layAt_180 hS.s8 rfl (by first | omega | exact (hmb (r - n) (by omega)).2) (hmb (r - n) (by omega)).1 ?_
        refine aw_lload dX6_layAt_181 rfl ?_
        refine aw_last dX6_layAt_183 hS.q1.s1 rfl (by first | omega | exact (hmb (r - n) (by omega)).2) rfl ?_
        refine aw_pc (pc2 := 184) rfl ?_
        refine aw_aload_n dX6_layAt_184 rfl ?_
        refine aw_getR dX6_layAt_185 flX6_18 hS.o hS.p2 ?_
        refine aw_getR dX6_layAt_188 flX6_116 hS.q2.o hS.q2.p1 ?_
        refine aw_aload_n dX6_layAt_191 rfl ?_
        refine aw_getR dX6_layAt_192 flX6_30 hS.o hS.p8 ?_
        refine aw_iload dX6_layAt_195 rfl ?_
        refine aw_pc (pc2 := 197) rfl ?_
        refine aw_iload_n dX6_layAt_197 rfl ?_
        refine aw_isubN dX6_layAt_198 (by first | omega | exact (hmb (r - n) (by omega)).2) ?_
        refine aw_ialdv (v := nI (mb (r - n))) dX6_layAt_199 hS.s8 rfl (by first | omega | exact (hmb (r - n) (by omega)).2) (hmb (r - n) (by omega)).1 ?_
        refine aw_lload dX6_layAt_200 rfl ?_
        refine aw_last dX6_layAt_202 hS.q2.s1 rfl (by first | omega | exact (hmb (r - n) (by omega)).2) rfl ?_
        refine aw_iincN dX6_layAt_203 rfl (by decide) ?_
        refine aw_lv (lv2 := [.ref _, .int _, .int _, .int _, .int _, .long _, .null, .long _, .null]) rfl ?_
        refine aw_pc (pc2 := 206) rfl ?_
        refine aw_goto (t := 81) dX6_layAt_206 (by decide) ?_
        refine aw_frg 5 ?_
        refine aw_frg 7 ?_
        exact ih (r + 1) _ (by omega) (by omega) (la_y hP (by omega) (by rw [hv r (by omega), hu r (by omega)]) (by rw [hu r (by omega)]))
      · skip
        refine aw_aload_n dX6_layAt_138 rfl ?_
        refine aw_getR dX6_layAt_139 flX6_12 hS.o hS.p1 ?_
        refine aw_getR dX6_layAt_142 flX6_120 hS.q1.o hS.q1.p0 ?_
        refine aw_iload dX6_layAt_145 rfl ?_
        refine aw_lload dX6_layAt_147 rfl ?_
        refine aw_pc (pc2 := 149) rfl ?_
        refine aw_last dX6_layAt_149 hS.q1.s0 rfl (by first | omega | exact (hmb (r - n) (by omega)).2) rfl ?_
        refine aw_aload_n dX6_layAt_150 rfl ?_
        refine aw_getR dX6_layAt_151 flX6_18 hS.o hS.p2 ?_
        refine aw_getR dX6_layAt_154 flX6_120 hS.q2.o hS.q2.p0 ?_
        refine aw_iload dX6_layAt_157 rfl ?_
        refine aw_lload dX6_layAt_159 rfl ?_
        refine aw_pc (pc2 := 161) rfl ?_
        refine aw_last dX6_layAt_161 hS.q2.s0 rfl (by first | omega | exact (hmb (r - n) (by omega)).2) rfl ?_
        refine aw_goto (t := 203) dX6_layAt_162 (by decide) ?_
        refine aw_iincN dX6_layAt_203 rfl (by decide) ?_
        refine aw_lv (lv2 := [.ref _, .int _, .int _, .int _, .int _, .long _, .null, .long _, .null]) rfl ?_
        refine aw_goto (t := 81) dX6_layAt_206 (by decide) ?_
        refine aw_frg 5 ?_
        refine aw_frg 7 ?_
        exact ih (r + 1) _ (by omega) (by omega) (la_x hP (by omega) (by rw [hv r (by omega), hu r (by omega)]) (by rw [hu r (by omega)]))
def la_u (F : Nat → Nat → Int64) (b : Int64) (w : Nat) (r : Nat) : Int64 := (sp_sg b).toInt64 * F r (w + 1)
def la_v (F : Nat → Nat → Int64) (b : Int64) (w : Nat) (t : Int32) (r : Nat) : Int64 := (sp_sg b).toInt64 * F r w + t.toInt64 * la_u F b w r
theorem tX6_layAt {G : aw_G} {d : Nat} {Ω : aw_O} {I : aw_MI} {J : aw_MJ} {Q : aw_O → aw_MI → aw_MJ → Prop} {s c n w : Nat} {t : Int32} {mb : Nat → Nat} (hS : aw_solver Ω s c) (hn : I c 0 = nI n) (hn3 : n ≤ 3) (hcs : c + 6 < s) (hw : I s 11 = nI w) (hnw : n ≤ w) (hw3 : w ≤ n + 3) (hmb : ∀ j, j < w - n → I (s + 15) j = nI (mb j) ∧ mb j < 6) (hd : 1 ≤ d) (hQ : ∀ J', sv_J s J J' → J' (s + 1) 2 = (sp_sg (J s 12)).toInt64 * J s 12 → J' (s + 4) 2 = (sp_sg (J s 12)).toInt64 * J s 12 → (∀ i, i < n → J' (s + 2) i = la_v (fun r => J (s + 9 + r)) (J s 12) w t i ∧ J' (s + 5) i = la_u (fun r => J (s + 9 + r)) (J s 12) w i) → (∀ l, l < 6 → J' (s + 3) l = sp_wt mb (fun j => la_v (fun r => J (s + 9 + r)) (J s 12) w t (n + j)) (w - n) l ∧ J' (s + 6) l = sp_wt mb (fun j => la_u (fun r => J (s + 9 + r)) (J s 12) w (n + j)) (w - n) l) → J' s = J s → (∀ r, J' (s + 9 + r) = J (s + 9 + r)) → Q Ω (aw_up I s 10 t) J') : aw_Call G MX6_layAt d 0 0 [.ref (aw_ad G s), .int t] Ω I J (aw_QV Q) := by
  refine aw_enter (by decide +kernel) rfl (Nat.le_of_ble_eq_true rfl) ?_
  show AW G MX6_layAt (aw_nx Ω) d 0 0 (aw_QV Q) Ω I J 0 0 [.ref (aw_ad G s), .int t, .null, .null, .null, .null, .null, .null, .null] 0 []
  refine aw_aload_n dX6_layAt_0 rfl ?_
  refine aw_iload_n dX6_layAt_1 rfl ?_
  refine aw_putI dX6_layAt_2 fwX6_112 hS.o rfl ?_
  refine aw_aload_n dX6_layAt_5 rfl ?_
  refine aw_getJ dX6_layAt_6 flX6_108 hS.o ?_
  refine aw_pc (pc2 := 9) rfl ?_
  refine aw_lconst (v := 0) dX6_layAt_9 (by decide) ?_
  refine aw_lcmp dX6_layAt_10 ?_
  refine aw_if_ge (t := 18) dX6_layAt_11 (by decide) (fun h1 => ?_) (fun h1 => ?_)
  · skip
    refine aw_iconst (v := nI 1) dX6_layAt_18 (by decide) ?_
    refine aw_istore_n dX6_layAt_19 (by decide) ?_
    refine aw_lv (lv2 := [.ref _, .int _, .int _, .null, .null, .null, .null, .null, .null]) rfl ?_
    refine aw_aload_n dX6_layAt_20 rfl ?_
    refine aw_getR dX6_layAt_21 flX6_12 hS.o hS.p1 ?_
    refine aw_iload_n dX6_layAt_24 rfl ?_
    refine aw_pc (pc2 := 25) rfl ?_
    refine aw_i2l dX6_layAt_25 ?_
    refine aw_aload_n dX6_layAt_26 rfl ?_
    refine aw_getJ dX6_layAt_27 flX6_108 hS.o ?_
    refine aw_lmul dX6_layAt_30 ?_
    refine aw_putJ dX6_layAt_31 fwX6_115 hS.q1.o rfl ?_
    refine aw_aload_n dX6_layAt_34 rfl ?_
    refine aw_pc (pc2 := 35) rfl ?_
    refine aw_getR dX6_layAt_35 flX6_18 hS.o hS.p2 ?_
    refine aw_aload_n dX6_layAt_38 rfl ?_
    refine aw_getR dX6_layAt_39 flX6_12 hS.o hS.p1 ?_
    refine aw_getJ dX6_layAt_42 flX6_115 hS.q1.o ?_
    refine aw_toL (aw_up_self _ _ _ _) ?_
    refine aw_putJ dX6_layAt_45 fwX6_115 hS.q2.o rfl ?_
    refine aw_aload_n dX6_layAt_48 rfl ?_
    refine aw_pc (pc2 := 49) rfl ?_
    refine aw_getR dX6_layAt_49 flX6_12 hS.o hS.p1 ?_
    refine aw_getR dX6_layAt_52 flX6_116 hS.q1.o hS.q1.p1 ?_
    refine aw_lconst (v := 0) dX6_layAt_55 (by decide) ?_
    refine aw_csV (As := [_, _]) (d' := d - 1) dX6_layAt_56 lkX6_92 (by omega) rfl rfl (Nat.le_of_ble_eq_true rfl) ⟨Nat.le_refl _, Nat.le_refl _⟩ (tJ7_fill_d0a16 hS.q1.s1 (by decide) ?_)
    refine aw_aload_n dX6_layAt_59 rfl ?_
    refine aw_getR dX6_layAt_60 flX6_18 hS.o hS.p2 ?_
    refine aw_pc (pc2 := 63) rfl ?_
    refine aw_getR dX6_layAt_63 flX6_116 hS.q2.o hS.q2.p1 ?_
    refine aw_lconst (v := 0) dX6_layAt_66 (by decide) ?_
    refine aw_csV (As := [_, _]) (d' := d - 1) dX6_layAt_67 lkX6_92 (by omega) rfl rfl (Nat.le_of_ble_eq_true rfl) ⟨Nat.le_refl _, Nat.le_refl _⟩ (tJ7_fill_d0a16 hS.q2.s1 (by decide) ?_)
    refine aw_aload_n dX6_layAt_70 rfl ?_
    refine aw_getR dX6_layAt_71 flX6_36 hS.o hS.p0 ?_
    refine aw_getIv (v := nI n) dX6_layAt_74 flX6_57 hS.q0.o (by rw [aw_up_off I _ (by omega)]; exact hn) ?_
    refine aw_pc (pc2 := 77) rfl ?_
    refine aw_istore_n dX6_layAt_77 (by decide) ?_
    refine aw_lv (lv2 := [.ref _, .int _, .int _, .int _, .null, .null, .null, .null, .null]) rfl ?_
    refine aw_iconst (v := nI 0) dX6_layAt_78 (by decide) ?_
    refine aw_istore dX6_layAt_79 (by decide) ?_
    refine aw_lv (lv2 := [.ref _, .int _, .int _, .int _, .int _, .null, .null, .null, .null]) rfl ?_
    simp only [lcmpE, lcmpL, lcmpG, lcmpLE, lcmpGT, nrm_le, nrm_le64, Classical.not_not] at h1
    have esg : sp_sg (J s 12) = (nI 1) := if_neg h1
    have erow : ∀ r, (aw_fill (aw_fill (aw_up (aw_up J (s + 1) 2 ((nI 1).toInt64 * J s 12)) (s + 4) 2 ((nI 1).toInt64 * J s 12)) (s + 3) 6 0) (s + 6) 6 0) (s + 9 + r) = J (s + 9 + r) := fun r => by rw [aw_fill_off _ _ (by omega), aw_fill_off _ _ (by omega), aw_up_off _ _ (by omega), aw_up_off _ _ (by omega)]
    have ez : ∀ l, l < 6 → (aw_fill (aw_fill (aw_up (aw_up J (s + 1) 2 ((nI 1).toInt64 * J s 12)) (s + 4) 2 ((nI 1).toInt64 * J s 12)) (s + 3) 6 0) (s + 6) 6 0) (s + 3) l = 0 ∧ (aw_fill (aw_fill (aw_up (aw_up J (s + 1) 2 ((nI 1).toInt64 * J s 12)) (s + 4) 2 ((nI 1).toInt64 * J s 12)) (s + 3) 6 0) (s + 6) 6 0) (s + 6) l = 0 := fun l hl => ⟨by rw [aw_fill_off _ _ (by omega)]; unfold aw_fill; rw [if_pos ⟨rfl, hl⟩], by unfold aw_fill; rw [if_pos ⟨rfl, hl⟩]⟩
    refine lX6_layAt (I := aw_up I s 10 t) (J0 := (aw_fill (aw_fill (aw_up (aw_up J (s + 1) 2 ((nI 1).toInt64 * J s 12)) (s + 4) 2 ((nI 1).toInt64 * J s 12)) (s + 3) 6 0) (s + 6) 6 0)) (u := la_u (fun r => J (s + 9 + r)) (J s 12) w) (v := la_v (fun r => J (s + 9 + r)) (J s 12) w t) (mb := mb) hS (by rw [aw_up_ne I _ (Or.inr (by decide))]; exact hw) hnw hw3 hn3 (fun j hj => by rw [aw_up_off I _ (by omega)]; exact hmb j hj) (fun r hr => by rw [erow r, la_u, esg]) (fun r hr => by rw [erow r, la_v, esg]) (fun J' hP => ?_) (w + 1) 0 _ (by omega) (by omega) ⟨fun i _ h9 => absurd h9 (by omega), fun l hl => by rw [show 0 - n = 0 by omega]; exact ez l hl, fun _ _ _ _ _ => rfl⟩
    refine hQ J' (fun a ha => ?_) ?_ ?_ (fun i hi => hP.1 i hi (by omega)) hP.2.1 ?_ (fun r => ?_)
    · rw [hP.2.2 a (by omega) (by omega) (by omega) (by omega), aw_fill_off _ _ (by omega), aw_fill_off _ _ (by omega), aw_up_off _ _ (by omega), aw_up_off _ _ (by omega)]
    · rw [hP.2.2 _ (by omega) (by omega) (by omega) (by omega), aw_fill_off _ _ (by omega), aw_fill_off _ _ (by omega), aw_up_off _ _ (by omega), aw_up_self, esg]
    · rw [hP.2.2 _ (by omega) (by omega) (by omega) (by omega), aw_fill_off _ _ (by omega), aw_fill_off _ _ (by omega), aw_up_self, esg]
    · rw [hP.2.2 _ (by omega) (by omega) (by omega) (by omega), aw_fill_off _ _ (by omega), aw_fill_off _ _ (by omega), aw_up_off _ _ (by omega), aw_up_off _ _ (by omega)]
    · rw [hP.2.2 _ (by omega) (by omega) (by omega) (by omega)]; exact erow r
  · skip
    refine aw_iconst (v := -1) dX6_layAt_14 (by decide) ?_
    refine aw_goto (t := 19) dX6_layAt_15 (by decide) ?_
    refine aw_istore_n dX6_layAt_19 (by decide) ?_
    refine aw_lv (lv2 := [.ref _, .int _, .int _, .null, .null, .null, .null, .null, .null]) rfl ?_
    refine aw_aload_n dX6_layAt_20 rfl ?_
    refine aw_getR dX6_layAt_21 flX6_12 hS.o hS.p1 ?_
    refine aw_iload_n dX6_layAt_24 rfl ?_
    refine aw_i2l dX6_layAt_25 ?_
    refine aw_pc (pc2 := 26) rfl ?_
    refine aw_aload_n dX6_layAt_26 rfl ?_
    refine aw_getJ dX6_layAt_27 flX6_108 hS.o ?_
    refine aw_lmul dX6_layAt_30 ?_
    refine aw_putJ dX6_layAt_31 fwX6_115 hS.q1.o rfl ?_
    refine aw_aload_n dX6_layAt_34 rfl ?_
    refine aw_getR dX6_layAt_35 flX6_18 hS.o hS.p2 ?_
    refine aw_pc (pc2 := 38) rfl ?_
    refine aw_aload_n dX6_layAt_38 rfl ?_
    refine aw_getR dX6_layAt_39 flX6_12 hS.o hS.p1 ?_
    refine aw_getJ dX6_layAt_42 flX6_115 hS.q1.o ?_
    refine aw_toL (aw_up_self _ _ _ _) ?_
    refine aw_putJ dX6_layAt_45 fwX6_115 hS.q2.o rfl ?_
    refine aw_aload_n dX6_layAt_48 rfl ?_
    refine aw_getR dX6_layAt_49 flX6_12 hS.o hS.p1 ?_
    refine aw_pc (pc2 := 52) rfl ?_
    refine aw_getR dX6_layAt_52 flX6_116 hS.q1.o hS.q1.p1 ?_
    refine aw_lconst (v := 0) dX6_layAt_55 (by decide) ?_
    refine aw_csV (As := [_, _]) (d' := d - 1) dX6_layAt_56 lkX6_92 (by omega) rfl rfl (Nat.le_of_ble_eq_true rfl) ⟨Nat.le_refl _, Nat.le_refl _⟩ (tJ7_fill_d0a16 hS.q1.s1 (by decide) ?_)
    refine aw_aload_n dX6_layAt_59 rfl ?_
    refine aw_getR dX6_layAt_60 flX6_18 hS.o hS.p2 ?_
    refine aw_getR dX6_layAt_63 flX6_116 hS.q2.o hS.q2.p1 ?_
    refine aw_pc (pc2 := 66) rfl ?_
    refine aw_lconst (v := 0) dX6_layAt_66 (by decide) ?_
    refine aw_csV (As := [_, _]) (d' := d - 1) dX6_layAt_67 lkX6_92 (by omega) rfl rfl (Nat.le_of_ble_eq_true rfl) ⟨Nat.le_refl _, Nat.le_refl _⟩ (tJ7_fill_d0a16 hS.q2.s1 (by decide) ?_)
    refine aw_aload_n dX6_layAt_70 rfl ?_
    refine aw_getR dX6_layAt_71 flX6_36 hS.o hS.p0 ?_
    refine aw_getIv (v := nI n) dX6_layAt_74 flX6_57 hS.q0.o (by rw [aw_up_off I _ (by omega)]; exact hn) ?_
    refine aw_istore_n dX6_layAt_77 (by decide) ?_
    refine aw_lv (lv2 := [.ref _, .int _, .int _, .int _, .null, .null, .null, .null, .null]) rfl ?_
    refine aw_pc (pc2 := 78) rfl ?_
    refine aw_iconst (v := nI 0) dX6_layAt_78 (by decide) ?_
    refine aw_istore dX6_layAt_79 (by decide) ?_
    refine aw_lv (lv2 := [.ref _, .int _, .int _, .int _, .int _, .null, .null, .null, .null]) rfl ?_
    simp only [lcmpE, lcmpL, lcmpG, lcmpLE, lcmpGT, nrm_le, nrm_le64, Classical.not_not] at h1
    have esg : sp_sg (J s 12) = (-1) := if_pos h1
    have erow : ∀ r, (aw_fill (aw_fill (aw_up (aw_up J (s + 1) 2 ((-1 : Int32).toInt64 * J s 12)) (s + 4) 2 ((-1 : Int32).toInt64 * J s 12)) (s + 3) 6 0) (s + 6) 6 0) (s + 9 + r) = J (s + 9 + r) := fun r => by rw [aw_fill_off _ _ (by omega), aw_fill_off _ _ (by omega), aw_up_off _ _ (by omega), aw_up_off _ _ (by omega)]
    have ez : ∀ l, l < 6 → (aw_fill (aw_fill (aw_up (aw_up J (s + 1) 2 ((-1 : Int32).toInt64 * J s 12)) (s + 4) 2 ((-1 : Int32).toInt64 * J s 12)) (s + 3) 6 0) (s + 6) 6 0) (s + 3) l = 0 ∧ (aw_fill (aw_fill (aw_up (aw_up J (s + 1) 2 ((-1 : Int32).toInt64 * J s 12)) (s + 4) 2 ((-1 : Int32).toInt64 * J s 12)) (s + 3) 6 0) (s + 6) 6 0) (s + 6) l = 0 := fun l hl => ⟨by rw [aw_fill_off _ _ (by omega)]; unfold aw_fill; rw [if_pos ⟨rfl, hl⟩], by unfold aw_fill; rw [if_pos ⟨rfl, hl⟩]⟩
    refine lX6_layAt (I := aw_up I s 10 t) (J0 := (aw_fill (aw_fill (aw_up (aw_up J (s + 1) 2 ((-1 : Int32).toInt64 * J s 12)) (s + 4) 2 ((-1 : Int32).toInt64 * J s 12)) (s + 3) 6 0) (s + 6) 6 0)) (u := la_u (fun r => J (s + 9 + r)) (J s 12) w) (v := la_v (fun r => J (s + 9 + r)) (J s 12) w t) (mb := mb) hS (by rw [aw_up_ne I _ (Or.inr (by decide))]; exact hw) hnw hw3 hn3 (fun j hj => by rw [aw_up_off I _ (by omega)]; exact hmb j hj) (fun r hr => by rw [erow r, la_u, esg]) (fun r hr => by rw [erow r, la_v, esg]) (fun J' hP => ?_) (w + 1) 0 _ (by omega) (by omega) ⟨fun i _ h9 => absurd h9 (by omega), fun l hl => by rw [show 0 - n = 0 by omega]; exact ez l hl, fun _ _ _ _ _ => rfl⟩
    refine hQ J' (fun a ha => ?_) ?_ ?_ (fun i hi => hP.1 i hi (by omega)) hP.2.1 ?_ (fun r => ?_)
    · rw [hP.2.2 a (by omega) (by omega) (by omega) (by omega), aw_fill_off _ _ (by omega), aw_fill_off _ _ (by omega), aw_up_off _ _ (by omega), aw_up_off _ _ (by omega)]
    · rw [hP.2.2 _ (by omega) (by omega) (by omega) (by omega), aw_fill_off _ _ (by omega), aw_fill_off _ _ (by omega), aw_up_off _ _ (by omega), aw_up_self, esg]
    · rw [hP.2.2 _ (by omega) (by omega) (by omega) (by omega), aw_fill_off _ _ (by omega), aw_fill_off _ _ (by omega), aw_up_self, esg]
    · rw [hP.2.2 _ (by omega) (by omega) (by omega) (by omega), aw_fill_off _ _ (by omega), aw_fill_off _ _ (by omega), aw_up_off _ _ (by omega), aw_up_off _ _ (by omega)]
    · rw [hP.2.2 _ (by omega) (by omega) (by omega) (by omega)]; exact erow r

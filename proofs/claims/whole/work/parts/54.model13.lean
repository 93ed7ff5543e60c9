/-! THE REFERENCE: the nearest place -/
def n1_P (I0 I : aw_MI) (k : Nat) : Prop := (∀ a, a ≠ 80 → a ≠ 66 → I a = I0 a) ∧ (∀ j, I 80 j = if j < k then I0 66 j else I0 80 j) ∧ ∀ j, I 66 j = if j < k then rp_rd j else I0 66 j
theorem n1_s {I0 I : aw_MI} {k : Nat} {v : Int32} (h : n1_P I0 I k) (hv : v = rp_rd k) : n1_P I0 (aw_up (aw_up I 80 k (I 66 k)) 66 k v) (k + 1) := by
  refine ⟨fun a h1 h2 => ?_, fun j => ?_, fun j => ?_⟩
  · rw [aw_up_off _ _ h2, aw_up_off _ _ h1, h.1 a h1 h2]
  · rw [aw_up_off _ _ (by decide)]
    by_cases e : j = k
    · rw [e, aw_up_self, if_pos (by omega), h.2.2 k, if_neg (by omega)]
    · rw [aw_up_ne _ _ (Or.inr e), h.2.1 j]
      by_cases e2 : j < k
      · rw [if_pos e2, if_pos (by omega)]
      · rw [if_neg e2, if_neg (by omega)]
  · by_cases e : j = k
    · rw [e, aw_up_self, if_pos (by omega), hv]
    · rw [aw_up_ne _ _ (Or.inr e), aw_up_off _ _ (by decide), h.2.2 j]
      by_cases e2 : j < k
      · rw [if_pos e2, if_pos (by omega)]
      · rw [if_neg e2, if_neg (by omega)]
def n2_P (I0 I : aw_MI) (q i : Nat) : Prop := (∀ a, a ≠ 80 → a ≠ 67 → I a = I0 a) ∧ (∀ j, I 80 j = if 9 ≤ j ∧ j < 9 + i then I0 67 (j - 9) else I0 80 j) ∧ ∀ j, I 67 j = if j < i then -I0 q j else I0 67 j
theorem n2_s {I0 I : aw_MI} {q i : Nat} (h : n2_P I0 I q i) (hq : 84 ≤ q) : n2_P I0 (aw_up (aw_up I 80 (9 + i) (I 67 i)) 67 i (-(aw_up I 80 (9 + i) (I 67 i) q i))) q (i + 1) := by
  refine ⟨fun a h1 h2 => ?_, fun j => ?_, fun j => ?_⟩
  · rw [aw_up_off _ _ h2, aw_up_off _ _ h1, h.1 a h1 h2]
  · rw [aw_up_off _ _ (by decide)]
    by_cases e : j = 9 + i
    · rw [e, aw_up_self, if_pos (by omega), h.2.2 i, if_neg (by omega), show 9 + i - 9 = i by omega]
    · rw [aw_up_ne _ _ (Or.inr e), h.2.1 j]
      by_cases e2 : 9 ≤ j ∧ j < 9 + i
      · rw [if_pos e2, if_pos (by omega)]
      · rw [if_neg e2, if_neg (by omega)]
  · by_cases e : j = i
    · rw [e, aw_up_self, if_pos (by omega), aw_up_off _ _ (by omega), h.1 q (by omega) (by omega)]
    · rw [aw_up_ne _ _ (Or.inr e), aw_up_off _ _ (by decide), h.2.2 j]
      by_cases e2 : j < i
      · rw [if_pos e2, if_pos (by omega)]
      · rw [if_neg e2, if_neg (by omega)]
def n3_P (I0 I : aw_MI) (c o i : Nat) : Prop := (∀ a, a ≠ c → I a = I0 a) ∧ ∀ j, I c j = if j < i then I0 80 (o + j) else I0 c j
theorem n3_s {I0 I : aw_MI} {c o i : Nat} (h : n3_P I0 I c o i) (hc : 80 ≠ c) : n3_P I0 (aw_up I c i (I 80 (o + i))) c o (i + 1) := by
  refine ⟨fun a h1 => by rw [aw_up_off _ _ h1, h.1 a h1], fun j => ?_⟩
  by_cases e : j = i
  · rw [e, aw_up_self, if_pos (by omega), h.1 80 hc]
  · rw [aw_up_ne _ _ (Or.inr e), h.2 j]
    by_cases e2 : j < i
    · rw [if_pos e2, if_pos (by omega)]
    · rw [if_neg e2, if_neg (by omega)]
def nx_p (x y v : Int32) (i : Nat) : Int32 := if i = 0 then x else if i = 1 then y else v
/-- the round bowl, pushed by a place -/
def nx_I (I : aw_MI) (x y v : Int32) : aw_MI := aw_wr (aw_wr I 66 0 9 rp_rd) 67 0 3 (fun i => -nx_p x y v i)
def nr_F (I I' : aw_MI) : Prop := ∀ a k, ¬ (a = 65 ∧ k = 13) → ¬ (a = 77 ∨ a = 80) → I' a k = I a k
def nr_J (J J' : aw_MJ) : Prop := ∀ a k, ¬ (a = 71 ∨ a = 72 ∨ a = 73 ∨ a = 74 ∨ a = 75 ∨ a = 76 ∨ a = 78) → ¬ (a = 65 ∧ (k = 18 ∨ k = 29)) → J' a k = J a k
theorem nx_E {I0 I1 I : aw_MI} {q : Nat} {x y v : Int32} (h1 : n1_P I0 I1 9) (h2 : n2_P I1 I q 3) (hq : 84 ≤ q) (hp : ∀ i, i < 3 → I0 q i = nx_p x y v i) : rx_E (nx_I I0 x y v) I := by
  refine ⟨funext fun k => ?_, funext fun k => ?_, ?_⟩
  · rw [h2.1 66 (by decide) (by decide), h1.2.2 k]
    show _ = aw_wr (aw_wr I0 66 0 9 rp_rd) 67 0 3 _ 66 k
    rw [aw_wr_off _ _ (by decide)]
    unfold aw_wr
    by_cases e : k < 9
    · rw [if_pos e, if_pos (by omega)]
      rfl
    · rw [if_neg e, if_neg (by omega)]
  · rw [h2.2.2 k]
    show _ = aw_wr (aw_wr I0 66 0 9 rp_rd) 67 0 3 _ 67 k
    unfold aw_wr
    by_cases e : k < 3
    · rw [if_pos e, if_pos (by omega), h1.1 q (by omega) (by omega), hp k e]
      rfl
    · rw [if_neg e, if_neg (by omega), if_neg (by omega), h1.1 67 (by decide) (by decide)]
  · rw [h2.1 68 (by decide) (by decide), h1.1 68 (by decide) (by decide)]
    show _ = aw_wr (aw_wr I0 66 0 9 rp_rd) 67 0 3 _ 68
    rw [aw_wr_off _ _ (by decide), aw_wr_off _ _ (by decide)]
/-- all put back -/
theorem nx_B {I0 I1 I2 I3 I4 I5 : aw_MI} {q : Nat} (h1 : n1_P I0 I1 9) (h2 : n2_P I1 I2 q 3) (h3 : mr_I I2 I3) (h4 : n3_P I3 I4 66 0 9) (h5 : n3_P I4 I5 67 9 3) : nr_F I0 I5 := by
  intro a k e1 e2
  have e80 : ∀ j, I3 80 j = I2 80 j := fun j => h3 80 j (by omega) (by omega)
  by_cases a66 : a = 66
  · subst a66
    rw [h5.1 66 (by decide), h4.2 k]
    by_cases e : k < 9
    · rw [if_pos e, e80, Nat.zero_add, h2.2.1 k, if_neg (by omega), h1.2.1 k, if_pos e]
    · rw [if_neg e, h3 66 k (by omega) (by omega), h2.1 66 (by decide) (by decide), h1.2.2 k, if_neg e]
  · by_cases a67 : a = 67
    · subst a67
      rw [h5.2 k]
      by_cases e : k < 3
      · rw [if_pos e, h4.1 80 (by decide), e80, h2.2.1 (9 + k), if_pos (by omega), show 9 + k - 9 = k by omega, h1.1 67 (by decide) (by decide)]
      · rw [if_neg e, h4.1 67 (by decide), h3 67 k (by omega) (by omega), h2.2.2 k, if_neg e, h1.1 67 (by decide) (by decide)]
    · rw [h5.1 a a67, h4.1 a a66, h3 a k (by omega) (by omega), h2.1 a (by omega) a67, h1.1 a (by omega) a66]

theorem lX8_isNear4 {G : aw_G} {d : Nat} {Ω : aw_O} {J : aw_MJ} {Q : Int32 → aw_O → aw_MI → aw_MJ → Prop} {q : Nat} {u : Int32} {I3 : aw_MI} (hM : aw_model Ω 65) (hA : aw_is Ω q (.inr (0, 3))) (hu : u = 0 ∨ u = 1) (hQ : ∀ I', n3_P I3 I' 67 9 3 → Q u Ω I' J) : ∀ (z i : Nat) (I : aw_MI), i ≤ 3 → 3 - i < z → n3_P I3 I 67 9 i → AW G MX8_isNear (aw_nx Ω) d 0 0 (aw_QI Q) Ω I J 0 0 [.ref (aw_ad G 65), .ref (aw_ad G q), .int u, .int (nI i)] 143 [] := by
  intro z
  induction z with
  | zero =>
    intro i I h0 hz hP
    exact absurd hz (by omega)
  | succ z ih =>
    intro i I h0 hz hP
    refine aw_iload_n dX8_isNear_143 rfl ?_
    refine aw_iconst (v := nI 3) dX8_isNear_144 (by decide) ?_
    refine aw_geN (t := 169) dX8_isNear_145 (by decide) (by omega) (by omega) (fun h1 => ?_) (fun h1 => ?_)
    · skip
      refine aw_iload_n dX8_isNear_169 rfl ?_
      rw [show i = 3 from by omega] at hP
      exact aw_zret dX8_isNear_170 rfl hu (hQ I hP) (Nat.zero_le _) (Nat.zero_le _)
    · skip
      refine aw_aload_n dX8_isNear_148 rfl ?_
      refine aw_getR dX8_isNear_149 flX8_17 hM.o hM.p2 ?_
      refine aw_iload_n dX8_isNear_152 rfl ?_
      refine aw_aload_n dX8_isNear_153 rfl ?_
      refine aw_getR dX8_isNear_154 flX8_57 hM.o hM.p28 ?_
      refine aw_pc (pc2 := 157) rfl ?_
      refine aw_bipush (v := nI 9) dX8_isNear_157 (by decide) ?_
      refine aw_iload_n dX8_isNear_159 rfl ?_
      refine aw_iaddN dX8_isNear_160 ?_
      refine aw_iald dX8_isNear_161 hM.s28 rfl (by omega) ?_
      refine aw_iast dX8_isNear_162 hM.s2 rfl (by omega) rfl ?_
      refine aw_iincN dX8_isNear_163 rfl (by decide) ?_
      refine aw_lv (lv2 := [.ref _, .ref _, .int _, .int _]) rfl ?_
      refine aw_pc (pc2 := 166) rfl ?_
      refine aw_goto (t := 143) dX8_isNear_166 (by decide) ?_
      exact ih (i + 1) _ (by omega) (by omega) (n3_s hP (by decide))
theorem lX8_isNear3 {G : aw_G} {d : Nat} {Ω : aw_O} {J : aw_MJ} {Q : Int32 → aw_O → aw_MI → aw_MJ → Prop} {q : Nat} {u : Int32} {I3 : aw_MI} (hM : aw_model Ω 65) (hA : aw_is Ω q (.inr (0, 3))) (hu : u = 0 ∨ u = 1) (hQ : ∀ I' I'', n3_P I3 I' 66 0 9 → n3_P I' I'' 67 9 3 → Q u Ω I'' J) : ∀ (z i : Nat) (I : aw_MI), i ≤ 9 → 9 - i < z → n3_P I3 I 66 0 i → AW G MX8_isNear (aw_nx Ω) d 0 0 (aw_QI Q) Ω I J 0 0 [.ref (aw_ad G 65), .ref (aw_ad G q), .int u, .int (nI i)] 117 [] := by
  intro z
  induction z with
  | zero =>
    intro i I h0 hz hP
    exact absurd hz (by omega)
  | succ z ih =>
    intro i I h0 hz hP
    refine aw_iload_n dX8_isNear_117 rfl ?_
    refine aw_bipush (v := nI 9) dX8_isNear_118 (by decide) ?_
    refine aw_geN (t := 141) dX8_isNear_120 (by decide) (by omega) (by omega) (fun h1 => ?_) (fun h1 => ?_)
    · skip
      refine aw_iconst (v := nI 0) dX8_isNear_141 (by decide) ?_
      refine aw_istore_n dX8_isNear_142 (by decide) ?_
      refine aw_lv (lv2 := [.ref _, .ref _, .int _, .int _]) rfl ?_
      rw [show i = 9 from by omega] at hP
      exact lX8_isNear4 hM hA hu (fun I'' h => hQ I I'' hP h) 4 0 I (by omega) (by omega) ⟨fun _ _ => rfl, fun j => by rw [if_neg (by omega)]⟩
    · skip
      refine aw_aload_n dX8_isNear_123 rfl ?_
      refine aw_getR dX8_isNear_124 flX8_13 hM.o hM.p1 ?_
      refine aw_iload_n dX8_isNear_127 rfl ?_
      refine aw_aload_n dX8_isNear_128 rfl ?_
      refine aw_getR dX8_isNear_129 flX8_57 hM.o hM.p28 ?_
      refine aw_pc (pc2 := 132) rfl ?_
      refine aw_iload_n dX8_isNear_132 rfl ?_
      refine aw_iald dX8_isNear_133 hM.s28 rfl (by omega) ?_
      refine aw_iast dX8_isNear_134 hM.s1 rfl (by omega) rfl ?_
      refine aw_iincN dX8_isNear_135 rfl (by decide) ?_
      refine aw_lv (lv2 := [.ref _, .ref _, .int _, .int _]) rfl ?_
      refine aw_goto (t := 117) dX8_isNear_138 (by decide) ?_
      have q9 := n3_s hP (by decide)
      rw [Nat.zero_add] at q9
      exact ih (i + 1) _ (by omega) (by omega) q9
theorem lX8_isNearM {G : aw_G} {d : Nat} {Ω : aw_O} {I : aw_MI} {J : aw_MJ} {Q : Int32 → aw_O → aw_MI → aw_MJ → Prop} {n m q : Nat} {x y v : Int32} {I0 I1 : aw_MI} {J0 : aw_MJ} (hM : aw_model Ω 65) (hA : aw_is Ω q (.inr (0, 3))) (hq : 84 ≤ q) (hn : I0 65 0 = nI n) (hn3 : n ≤ 3) (hm : I0 65 4 = nI m) (hm6 : m ≤ 6) (hp : ∀ i, i < 3 → I0 q i = nx_p x y v i) (hN1 : n1_P I0 I1 9) (hN2 : n2_P I1 I q 3) (hd : 6 ≤ d) (kN : ∀ I' J', nr_F I0 I' → nr_J J J' → rx_res (nx_I I0 x y v) n m (2 ^ m - 1) = -1 → Q (nI 0) Ω I' J') (hQ : ∀ w I' J', nr_F I0 I' → nr_J J J' → w < 2 ^ m → rx_gb (nx_I I0 x y v) n m (nI (2 ^ m - 1)) (I0 65 3) w = true → rx_res (nx_I I0 x y v) n m (2 ^ m - 1) = nI w → rx_At (nx_I I0 x y v) n m w (I0 65 3) J' → J' 65 29 = rx_wo (nx_I I0 x y v) n m w (I0 65 3) → Q (nI 1) Ω I' J') : AW G MX8_isNear (aw_nx Ω) d 0 0 (aw_QI Q) Ω I J 0 0 [.ref (aw_ad G 65), .ref (aw_ad G q), .null, .null] 81 [] := by
  have hE := nx_E hN1 hN2 hq hp
  have hn1 : I 65 0 = nI n := by rw [hN2.1 65 (by decide) (by decide), hN1.1 65 (by decide) (by decide)]; exact hn
  have hm1 : I 65 4 = nI m := by rw [hN2.1 65 (by decide) (by decide), hN1.1 65 (by decide) (by decide)]; exact hm
  have ht1 : I 65 3 = nx_I I0 x y v 65 3 := by rw [hN2.1 65 (by decide) (by decide), hN1.1 65 (by decide) (by decide)]; exact (congrFun ((aw_wr_off _ _ (by decide)).trans (aw_wr_off _ _ (by decide))) 3).symm
  have ht0 : nx_I I0 x y v 65 3 = I0 65 3 := congrFun ((aw_wr_off _ _ (by decide)).trans (aw_wr_off _ _ (by decide))) 3
  have h64 : 2 ^ m ≤ 2 ^ 6 := Nat.pow_le_pow_right (by decide) hm6
  refine aw_aload_n dX8_isNear_81 rfl ?_
  refine aw_aload_n dX8_isNear_82 rfl ?_
  refine aw_cvI (As := []) (d' := d - 1) dX8_isNear_83 lkX8_220 hM.o (by omega) rfl rfl (Nat.le_of_ble_eq_true rfl) ⟨Nat.le_refl _, Nat.le_refl _⟩ (tX8_all hM hm1 ?_)
  refine aw_toI (sp_all_nI m (by omega)) ?_
  refine aw_cvI (As := [_]) (d' := d - 1) dX8_isNear_86 lkX8_190 hM.o (by omega) rfl rfl (Nat.le_of_ble_eq_true rfl) ⟨Nat.le_refl _, Nat.le_refl _⟩ (tX8_works hM hn1 hn3 hm1 hm6 (Nat.sub_lt (Nat.pos_of_ne_zero (by simp)) (by decide)) (by omega) ?_ ?_)
  · skip
    intro I2 J2 a1 b1 f1
    rw [show cx_find (rx_gb I n m (nI (2 ^ m - 1)) (I 65 3)) (nI (2 ^ m - 1)) (2 ^ m - 1 + 1) 0 = rx_res (nx_I I0 x y v) n m (2 ^ m - 1) from rx_res_c hE ht1] at f1
    refine aw_iconst (v := -1) dX8_isNear_89 (by decide) ?_
    refine aw_icmp_eq (t := 97) dX8_isNear_90 (by decide) (fun h1 => ?_) (fun h1 => absurd h1 (by decide))
    refine aw_iconst (v := nI 0) dX8_isNear_97 (by decide) ?_
    refine aw_istore_n dX8_isNear_98 (by decide) ?_
    refine aw_lv (lv2 := [.ref _, .ref _, .int _, .null]) rfl ?_
    refine aw_aload_n dX8_isNear_99 rfl ?_
    refine aw_pc (pc2 := 100) rfl ?_
    refine aw_iload_n dX8_isNear_100 rfl ?_
    refine aw_if_eq (t := 111) dX8_isNear_101 (by decide) (fun h2 => ?_) (fun h2 => absurd h2 (by decide))
    refine aw_lconst (v := 0) dX8_isNear_111 (by decide) ?_
    refine aw_putJ dX8_isNear_112 fwX8_240 hM.o rfl ?_
    refine aw_iconst (v := nI 0) dX8_isNear_115 (by decide) ?_
    refine aw_istore_n dX8_isNear_116 (by decide) ?_
    refine aw_lv (lv2 := [.ref _, .ref _, .int _, .int _]) rfl ?_
    exact lX8_isNear3 (I3 := I2) hM hA (Or.inl rfl) (fun I' I'' b4 b5 => kN I'' _ (nx_B hN1 hN2 a1 b4 b5) (fun a k e1 e2 => by rw [aw_up_ne J2 _ (by omega)]; exact b1 a k e1 (by omega)) f1) 10 0 I2 (by omega) (by omega) ⟨fun _ _ => rfl, fun j => by rw [if_neg (by omega)]⟩
  · skip
    intro w I2 J2 hw a1 b1 g1 A1 f1
    rw [show cx_find (rx_gb I n m (nI (2 ^ m - 1)) (I 65 3)) (nI (2 ^ m - 1)) (2 ^ m - 1 + 1) 0 = rx_res (nx_I I0 x y v) n m (2 ^ m - 1) from rx_res_c hE ht1] at f1
    rw [rx_find_c (S := 0) hE, ht1, ht0] at g1
    rw [rx_At_c hE, ht1, ht0] at A1
    have hne : ¬ nI w = -1 := fun q => absurd (show (0 : Int32) ≤ -1 from q ▸ nI_pos' (by omega)) (by decide)
    have hw2 : w < 2 ^ m := Nat.lt_of_le_of_lt hw (Nat.sub_lt (Nat.pos_of_ne_zero (by simp)) (by decide))
    have hn2 : I2 65 0 = nI n := by rw [a1 65 0 (by decide) (by decide)]; exact hn1
    have hm2 : I2 65 4 = nI m := by rw [a1 65 4 (by decide) (by decide)]; exact hm1
    have ht2 : I2 65 3 = I0 65 3 := by rw [a1 65 3 (by decide) (by decide), ht1, ht0]
    have hE2 : rx_E (nx_I I0 x y v) I2 := ⟨a1.E.1.trans hE.1, a1.E.2.1.trans hE.2.1, a1.E.2.2.trans hE.2.2⟩
    refine aw_iconst (v := -1) dX8_isNear_89 (by decide) ?_
    refine aw_icmp_eq (t := 97) dX8_isNear_90 (by decide) (fun h3 => ?_) (fun h3 => ?_)
    · skip
      exact absurd h3 hne
    · skip
      refine aw_iconst (v := nI 1) dX8_isNear_93 (by decide) ?_
      refine aw_goto (t := 98) dX8_isNear_94 (by decide) ?_
      refine aw_istore_n dX8_isNear_98 (by decide) ?_
      refine aw_lv (lv2 := [.ref _, .ref _, .int _, .null]) rfl ?_
      refine aw_aload_n dX8_isNear_99 rfl ?_
      refine aw_iload_n dX8_isNear_100 rfl ?_
      refine aw_if_eq (t := 111) dX8_isNear_101 (by decide) (fun h4 => absurd h4 (by decide)) (fun h4 => ?_)
      refine aw_aload_n dX8_isNear_104 rfl ?_
      refine aw_pc (pc2 := 105) rfl ?_
      refine aw_cvL (As := []) (d' := d - 1) dX8_isNear_105 lkX8_207 hM.o (by omega) rfl rfl (Nat.le_of_ble_eq_true rfl) ⟨Nat.le_refl _, Nat.le_refl _⟩ (tX8_worthOf hM hn2 hn3 hm2 hm6 (by omega) ?_)
      refine aw_toL (rp_wo_at hE2 ht2 hm6 A1) ?_
      refine aw_goto (t := 112) dX8_isNear_108 (by decide) ?_
      refine aw_putJ dX8_isNear_112 fwX8_240 hM.o rfl ?_
      refine aw_iconst (v := nI 0) dX8_isNear_115 (by decide) ?_
      refine aw_istore_n dX8_isNear_116 (by decide) ?_
      refine aw_lv (lv2 := [.ref _, .ref _, .int _, .int _]) rfl ?_
      exact lX8_isNear3 (I3 := I2) hM hA (Or.inr rfl) (fun I' I'' b4 b5 => hQ w I'' _ (nx_B hN1 hN2 a1 b4 b5) (fun a k e1 e2 => by rw [aw_up_ne J2 _ (by omega)]; exact b1 a k e1 (by omega)) hw2 g1 f1 ⟨by rw [aw_up_ne J2 _ (by decide)]; exact A1.1, fun i hi => by rw [aw_up_off J2 _ (by decide)]; exact A1.2.1 i hi, fun l hl => by rw [aw_up_off J2 _ (by decide)]; exact A1.2.2 l hl⟩ (aw_up_self _ _ _ _)) 10 0 I2 (by omega) (by omega) ⟨fun _ _ => rfl, fun j => by rw [if_neg (by omega)]⟩
theorem lX8_isNear2 {G : aw_G} {d : Nat} {Ω : aw_O} {J : aw_MJ} {Q : Int32 → aw_O → aw_MI → aw_MJ → Prop} {n m q : Nat} {x y v : Int32} {I0 I1 : aw_MI} (hM : aw_model Ω 65) (hA : aw_is Ω q (.inr (0, 3))) (hq : 84 ≤ q) (hn : I0 65 0 = nI n) (hn3 : n ≤ 3) (hm : I0 65 4 = nI m) (hm6 : m ≤ 6) (hp : ∀ i, i < 3 → I0 q i = nx_p x y v i) (hd : 6 ≤ d) (hN1 : n1_P I0 I1 9) (kN : ∀ I' J', nr_F I0 I' → nr_J J J' → rx_res (nx_I I0 x y v) n m (2 ^ m - 1) = -1 → Q (nI 0) Ω I' J') (hQ : ∀ w I' J', nr_F I0 I' → nr_J J J' → w < 2 ^ m → rx_gb (nx_I I0 x y v) n m (nI (2 ^ m - 1)) (I0 65 3) w = true → rx_res (nx_I I0 x y v) n m (2 ^ m - 1) = nI w → rx_At (nx_I I0 x y v) n m w (I0 65 3) J' → J' 65 29 = rx_wo (nx_I I0 x y v) n m w (I0 65 3) → Q (nI 1) Ω I' J') : ∀ (z i : Nat) (I : aw_MI), i ≤ 3 → 3 - i < z → n2_P I1 I q i → AW G MX8_isNear (aw_nx Ω) d 0 0 (aw_QI Q) Ω I J 0 0 [.ref (aw_ad G 65), .ref (aw_ad G q), .int (nI i), .null] 45 [] := by
  intro z
  induction z with
  | zero =>
    intro i I h0 hz hP
    exact absurd hz (by omega)
  | succ z ih =>
    intro i I h0 hz hP
    refine aw_iload_n dX8_isNear_45 rfl ?_
    refine aw_iconst (v := nI 3) dX8_isNear_46 (by decide) ?_
    refine aw_geN (t := 81) dX8_isNear_47 (by decide) (by omega) (by omega) (fun h1 => ?_) (fun h1 => ?_)
    · skip
      rw [show i = 3 from by omega] at hP
      refine aw_frg 2 ?_
      exact lX8_isNearM (I0 := I0) (I1 := I1) (J0 := J) hM hA hq hn hn3 hm hm6 hp hN1 hP hd kN hQ
    · skip
      refine aw_aload_n dX8_isNear_50 rfl ?_
      refine aw_getR dX8_isNear_51 flX8_57 hM.o hM.p28 ?_
      refine aw_bipush (v := nI 9) dX8_isNear_54 (by decide) ?_
      refine aw_iload_n dX8_isNear_56 rfl ?_
      refine aw_iaddN dX8_isNear_57 ?_
      refine aw_pc (pc2 := 58) rfl ?_
      refine aw_aload_n dX8_isNear_58 rfl ?_
      refine aw_getR dX8_isNear_59 flX8_17 hM.o hM.p2 ?_
      refine aw_iload_n dX8_isNear_62 rfl ?_
      refine aw_iald dX8_isNear_63 hM.s2 rfl (by omega) ?_
      refine aw_iast dX8_isNear_64 hM.s28 rfl (by omega) rfl ?_
      refine aw_aload_n dX8_isNear_65 rfl ?_
      refine aw_pc (pc2 := 66) rfl ?_
      refine aw_getR dX8_isNear_66 flX8_17 hM.o hM.p2 ?_
      refine aw_iload_n dX8_isNear_69 rfl ?_
      refine aw_aload_n dX8_isNear_70 rfl ?_
      refine aw_iload_n dX8_isNear_71 rfl ?_
      refine aw_iald dX8_isNear_72 hA rfl (by omega) ?_
      refine aw_ineg dX8_isNear_73 ?_
      refine aw_pc (pc2 := 74) rfl ?_
      refine aw_iast dX8_isNear_74 hM.s2 rfl (by omega) rfl ?_
      refine aw_iincN dX8_isNear_75 rfl (by decide) ?_
      refine aw_lv (lv2 := [.ref _, .ref _, .int _, .null]) rfl ?_
      refine aw_goto (t := 45) dX8_isNear_78 (by decide) ?_
      exact ih (i + 1) _ (by omega) (by omega) (n2_s hP hq)
theorem lX8_isNear1 {G : aw_G} {d : Nat} {Ω : aw_O} {J : aw_MJ} {Q : Int32 → aw_O → aw_MI → aw_MJ → Prop} {n m q : Nat} {x y v : Int32} {I0 : aw_MI} (hM : aw_model Ω 65) (hA : aw_is Ω q (.inr (0, 3))) (hq : 84 ≤ q) (hn : I0 65 0 = nI n) (hn3 : n ≤ 3) (hm : I0 65 4 = nI m) (hm6 : m ≤ 6) (hp : ∀ i, i < 3 → I0 q i = nx_p x y v i) (hd : 6 ≤ d) (kN : ∀ I' J', nr_F I0 I' → nr_J J J' → rx_res (nx_I I0 x y v) n m (2 ^ m - 1) = -1 → Q (nI 0) Ω I' J') (hQ : ∀ w I' J', nr_F I0 I' → nr_J J J' → w < 2 ^ m → rx_gb (nx_I I0 x y v) n m (nI (2 ^ m - 1)) (I0 65 3) w = true → rx_res (nx_I I0 x y v) n m (2 ^ m - 1) = nI w → rx_At (nx_I I0 x y v) n m w (I0 65 3) J' → J' 65 29 = rx_wo (nx_I I0 x y v) n m w (I0 65 3) → Q (nI 1) Ω I' J') : ∀ (z k : Nat) (I : aw_MI), k ≤ 9 → 9 - k < z → n1_P I0 I k → AW G MX8_isNear (aw_nx Ω) d 0 0 (aw_QI Q) Ω I J 0 0 [.ref (aw_ad G 65), .ref (aw_ad G q), .int (nI k), .null] 2 [] := by
  intro z
  induction z with
  | zero =>
    intro k I h0 hz hP
    exact absurd hz (by omega)
  | succ z ih =>
    intro k I h0 hz hP
    refine aw_iload_n dX8_isNear_2 rfl ?_
    refine aw_bipush (v := nI 9) dX8_isNear_3 (by decide) ?_
    refine aw_geN (t := 43) dX8_isNear_5 (by decide) (by omega) (by omega) (fun h1 => ?_) (fun h1 => ?_)
    · skip
      refine aw_iconst (v := nI 0) dX8_isNear_43 (by decide) ?_
      refine aw_istore_n dX8_isNear_44 (by decide) ?_
      refine aw_lv (lv2 := [.ref _, .ref _, .int _, .null]) rfl ?_
      rw [show k = 9 from by omega] at hP
      exact lX8_isNear2 hM hA hq hn hn3 hm hm6 hp hd hP kN hQ 4 0 I (by omega) (by omega) ⟨fun _ _ _ => rfl, fun j => by rw [if_neg (by omega)], fun j => by rw [if_neg (by omega)]⟩
    · skip
      refine aw_aload_n dX8_isNear_8 rfl ?_
      refine aw_getR dX8_isNear_9 flX8_57 hM.o hM.p28 ?_
      refine aw_iload_n dX8_isNear_12 rfl ?_
      refine aw_aload_n dX8_isNear_13 rfl ?_
      refine aw_getR dX8_isNear_14 flX8_13 hM.o hM.p1 ?_
      refine aw_pc (pc2 := 17) rfl ?_
      refine aw_iload_n dX8_isNear_17 rfl ?_
      refine aw_iald dX8_isNear_18 hM.s1 rfl (by omega) ?_
      refine aw_iast dX8_isNear_19 hM.s28 rfl (by omega) rfl ?_
      refine aw_aload_n dX8_isNear_20 rfl ?_
      refine aw_getR dX8_isNear_21 flX8_13 hM.o hM.p1 ?_
      refine aw_iload_n dX8_isNear_24 rfl ?_
      refine aw_pc (pc2 := 25) rfl ?_
      refine aw_iload_n dX8_isNear_25 rfl ?_
      refine aw_iconst (v := nI 4) dX8_isNear_26 (by decide) ?_
      refine aw_irem dX8_isNear_27 (by decide) ?_
      refine aw_if_ne (t := 35) dX8_isNear_28 (by decide) (fun h2 => ?_) (fun h2 => ?_)
      · skip
        refine aw_iconst (v := nI 0) dX8_isNear_35 (by decide) ?_
        refine aw_iast dX8_isNear_36 hM.s1 rfl (by omega) rfl ?_
        refine aw_iincN dX8_isNear_37 rfl (by decide) ?_
        refine aw_lv (lv2 := [.ref _, .ref _, .int _, .null]) rfl ?_
        refine aw_goto (t := 2) dX8_isNear_40 (by decide) ?_
        exact ih (k + 1) _ (by omega) (by omega) (n1_s hP (by unfold rp_rd; rw [if_neg (by first | exact (rem40 (by omega)).mp h2 | exact fun q => h2 ((rem40 (by omega)).mpr q))]))
      · skip
        refine aw_iconst (v := nI 1) dX8_isNear_31 (by decide) ?_
        refine aw_goto (t := 36) dX8_isNear_32 (by decide) ?_
        refine aw_iast dX8_isNear_36 hM.s1 rfl (by omega) rfl ?_
        refine aw_iincN dX8_isNear_37 rfl (by decide) ?_
        refine aw_lv (lv2 := [.ref _, .ref _, .int _, .null]) rfl ?_
        refine aw_goto (t := 2) dX8_isNear_40 (by decide) ?_
        exact ih (k + 1) _ (by omega) (by omega) (n1_s hP (by unfold rp_rd; rw [if_pos (by first | exact (rem40 (by omega)).mp h2 | exact fun q => h2 ((rem40 (by omega)).mpr q))]))
theorem tX8_isNear {G : aw_G} {d : Nat} {Ω : aw_O} {I : aw_MI} {J : aw_MJ} {Q : Int32 → aw_O → aw_MI → aw_MJ → Prop} {n m q : Nat} {x y v : Int32} (hM : aw_model Ω 65) (hA : aw_is Ω q (.inr (0, 3))) (hq : 84 ≤ q) (hn : I 65 0 = nI n) (hn3 : n ≤ 3) (hm : I 65 4 = nI m) (hm6 : m ≤ 6) (hp : ∀ i, i < 3 → I q i = nx_p x y v i) (hd : 6 ≤ d) (kN : ∀ I' J', nr_F I I' → nr_J J J' → rx_res (nx_I I x y v) n m (2 ^ m - 1) = -1 → Q (nI 0) Ω I' J') (hQ : ∀ w I' J', nr_F I I' → nr_J J J' → w < 2 ^ m → rx_gb (nx_I I x y v) n m (nI (2 ^ m - 1)) (I 65 3) w = true → rx_res (nx_I I x y v) n m (2 ^ m - 1) = nI w → rx_At (nx_I I x y v) n m w (I 65 3) J' → J' 65 29 = rx_wo (nx_I I x y v) n m w (I 65 3) → Q (nI 1) Ω I' J') : aw_Call G MX8_isNear d 0 0 [.ref (aw_ad G 65), .ref (aw_ad G q)] Ω I J (aw_QI Q) := by
  refine aw_enter (by decide +kernel) rfl (Nat.le_of_ble_eq_true rfl) ?_
  show AW G MX8_isNear (aw_nx Ω) d 0 0 (aw_QI Q) Ω I J 0 0 [.ref (aw_ad G 65), .ref (aw_ad G q), .null, .null] 0 []
  refine aw_iconst (v := nI 0) dX8_isNear_0 (by decide) ?_
  refine aw_istore_n dX8_isNear_1 (by decide) ?_
  refine aw_lv (lv2 := [.ref _, .ref _, .int _, .null]) rfl ?_
  exact lX8_isNear1 hM hA hq hn hn3 hm hm6 hp hd kN hQ 10 0 I (by omega) (by omega) ⟨fun _ _ _ => rfl, fun j => by rw [if_neg (by omega)], fun j => by rw [if_neg (by omega)]⟩
theorem tX8_isPlace {G : aw_G} {d : Nat} {Ω : aw_O} {I : aw_MI} {J : aw_MJ} {Q : Int32 → aw_O → aw_MI → aw_MJ → Prop} {x y v : Int32} (hd : 1 ≤ d) (kB : sp_wi x (nI 99) = 0 ∨ sp_wi y (nI 99) = 0 ∨ sp_wi v (nI 99) = 0 → Q (nI 0) Ω I J) (hQ : ¬ (sp_wi x (nI 99) = 0 ∨ sp_wi y (nI 99) = 0 ∨ sp_wi v (nI 99) = 0) → Q (nI 1) Ω I J) : aw_Call G MX8_isPlace d 0 0 [.int x, .int y, .int v] Ω I J (aw_QI Q) := by
  refine aw_enter (by decide +kernel) rfl (Nat.le_of_ble_eq_true rfl) ?_
  show AW G MX8_isPlace (aw_nx Ω) d 0 0 (aw_QI Q) Ω I J 0 0 [.int x, .int y, .int v] 0 []
  refine aw_iload_n dX8_isPlace_0 rfl ?_
  refine aw_i2l dX8_isPlace_1 ?_
  refine aw_ldc2 (v := -99) dX8_isPlace_2 (aw_pl 908 (by decide +kernel) rfl) ?_
  refine aw_ldc2 (v := 99) dX8_isPlace_5 (aw_pl 909 (by decide +kernel) rfl) ?_
  refine aw_csI (As := [_, _, _]) (d' := d - 1) dX8_isPlace_8 lkX8_84 (by omega) rfl rfl (Nat.le_of_ble_eq_true rfl) ⟨Nat.le_refl _, Nat.le_refl _⟩ (tX8_in ?_)
  refine aw_toI (rg_99 x) ?_
  refine aw_pc (pc2 := 11) rfl ?_
  refine aw_if_eq (t := 46) dX8_isPlace_11 (by decide) (fun h1 => ?_) (fun h1 => ?_)
  · skip
    refine aw_iconst (v := nI 0) dX8_isPlace_46 (by decide) ?_
    exact aw_zret dX8_isPlace_47 rfl (by decide) (kB (Or.inl h1)) (Nat.zero_le _) (Nat.zero_le _)
  · skip
    refine aw_iload_n dX8_isPlace_14 rfl ?_
    refine aw_i2l dX8_isPlace_15 ?_
    refine aw_ldc2 (v := -99) dX8_isPlace_16 (aw_pl 908 (by decide +kernel) rfl) ?_
    refine aw_ldc2 (v := 99) dX8_isPlace_19 (aw_pl 909 (by decide +kernel) rfl) ?_
    refine aw_csI (As := [_, _, _]) (d' := d - 1) dX8_isPlace_22 lkX8_84 (by omega) rfl rfl (Nat.le_of_ble_eq_true rfl) ⟨Nat.le_refl _, Nat.le_refl _⟩ (tX8_in ?_)
    refine aw_toI (rg_99 y) ?_
    refine aw_pc (pc2 := 25) rfl ?_
    refine aw_if_eq (t := 46) dX8_isPlace_25 (by decide) (fun h2 => ?_) (fun h2 => ?_)
    · skip
      refine aw_iconst (v := nI 0) dX8_isPlace_46 (by decide) ?_
      exact aw_zret dX8_isPlace_47 rfl (by decide) (kB (Or.inr (Or.inl h2))) (Nat.zero_le _) (Nat.zero_le _)
    · skip
      refine aw_iload_n dX8_isPlace_28 rfl ?_
      refine aw_i2l dX8_isPlace_29 ?_
      refine aw_ldc2 (v := -99) dX8_isPlace_30 (aw_pl 908 (by decide +kernel) rfl) ?_
      refine aw_ldc2 (v := 99) dX8_isPlace_33 (aw_pl 909 (by decide +kernel) rfl) ?_
      refine aw_csI (As := [_, _, _]) (d' := d - 1) dX8_isPlace_36 lkX8_84 (by omega) rfl rfl (Nat.le_of_ble_eq_true rfl) ⟨Nat.le_refl _, Nat.le_refl _⟩ (tX8_in ?_)
      refine aw_toI (rg_99 v) ?_
      refine aw_pc (pc2 := 39) rfl ?_
      refine aw_if_eq (t := 46) dX8_isPlace_39 (by decide) (fun h3 => ?_) (fun h3 => ?_)
      · skip
        refine aw_iconst (v := nI 0) dX8_isPlace_46 (by decide) ?_
        exact aw_zret dX8_isPlace_47 rfl (by decide) (kB (Or.inr (Or.inr (h3)))) (Nat.zero_le _) (Nat.zero_le _)
      · skip
        refine aw_iconst (v := nI 1) dX8_isPlace_42 (by decide) ?_
        refine aw_goto (t := 47) dX8_isPlace_43 (by decide) ?_
        exact aw_zret dX8_isPlace_47 rfl (by decide) (hQ (fun q => q.elim h1 (fun q => q.elim h2 h3))) (Nat.zero_le _) (Nat.zero_le _)

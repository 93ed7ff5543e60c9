/-! THE SOLVER: the rows laid -/
def sp_ush (x y : Int32) : Int32 := (x.toUInt32 >>> (y.toUInt32 &&& Int32.toUInt32 31)).toInt32
def sp_bc1 (x : Int32) : Int32 := x - (sp_ush x (nI 1) &&& 1431655765)
def sp_bc2 (x : Int32) : Int32 := (x &&& 858993459) + (sp_ush x (nI 2) &&& 858993459)
def sp_bc3 (x : Int32) : Int32 := (x + sp_ush x (nI 4)) &&& 252645135
def sp_bc4 (x : Int32) : Int32 := x + sp_ush x (nI 8)
def sp_bc5 (x : Int32) : Int32 := x + sp_ush x (nI 16)
def sp_bc (x : Int32) : Int32 := sp_bc5 (sp_bc4 (sp_bc3 (sp_bc2 (sp_bc1 x)))) &&& nI 63
/-- the set bits of x below l -/
def sp_mb (x : Int32) : Nat → List Nat
  | 0 => []
  | l + 1 => if x >>> (nI l &&& 31) &&& nI 1 = 0 then sp_mb x l else sp_mb x l ++ [l]
theorem sp_bc_ok : ∀ w, w < 64 → sp_bc (nI w) = nI (sp_mb (nI w) 6).length := by decide +kernel
theorem sp_mb_m : ∀ m, m < 7 → ∀ w, w < 2 ^ m → sp_mb (nI w) m = sp_mb (nI w) 6 := by decide +kernel
theorem sp_mb_f {x : Int32} {l : Nat} (h : x >>> (nI l &&& 31) &&& nI 1 = 0) : sp_mb x (l + 1) = sp_mb x l := by
  show (if _ then _ else _) = _
  rw [if_pos h]
theorem sp_mb_t {x : Int32} {l : Nat} (h : ¬ x >>> (nI l &&& 31) &&& nI 1 = 0) : sp_mb x (l + 1) = sp_mb x l ++ [l] := by
  show (if _ then _ else _) = _
  rw [if_neg h]
theorem sp_mb_len {x : Int32} {l : Nat} : ∀ {m : Nat}, l ≤ m → (sp_mb x l).length ≤ (sp_mb x m).length ∧ ((sp_mb x m).length ≤ (sp_mb x l).length → sp_mb x m = sp_mb x l)
  | 0, h => by
    have e : l = 0 := by omega
    subst e
    exact ⟨Nat.le_refl _, fun _ => rfl⟩
  | m + 1, h => by
    by_cases e : l = m + 1
    · subst e
      exact ⟨Nat.le_refl _, fun _ => rfl⟩
    · obtain ⟨i1, i2⟩ := sp_mb_len (x := x) (l := l) (m := m) (by omega)
      by_cases hb : x >>> (nI m &&& 31) &&& nI 1 = 0
      · rw [sp_mb_f hb]
        exact ⟨i1, i2⟩
      · rw [sp_mb_t hb]
        simp only [List.length_append, List.length_cons, List.length_nil]
        exact ⟨by omega, fun q => absurd q (by omega)⟩
theorem sp_mb_lt {x : Int32} : ∀ {l j : Nat}, j < (sp_mb x l).length → (sp_mb x l).getD j 0 < l
  | 0, j, h => by simp [sp_mb] at h
  | l + 1, j, h => by
    by_cases hb : x >>> (nI l &&& 31) &&& nI 1 = 0
    · rw [sp_mb_f hb] at h ⊢
      exact Nat.lt_succ_of_lt (sp_mb_lt h)
    · rw [sp_mb_t hb] at h ⊢
      by_cases hj : j < (sp_mb x l).length
      · rw [List.getD_eq_getElem?_getD, List.getElem?_append_left hj, ← List.getD_eq_getElem?_getD]
        exact Nat.lt_succ_of_lt (sp_mb_lt hj)
      · have hj2 : j = (sp_mb x l).length := by
          simp only [List.length_append, List.length_cons, List.length_nil] at h
          omega
        subst hj2
        simp
def sp_dft (I : aw_MI) (c l : Nat) : Int32 := sp_bd I c l (nI 1) - sp_bd I c l (nI 0)
/-- the rows of a set's lines: bends, lines, right sides (tide 0, and by how much a tide moves them) -/
def sp_mat (I : aw_MI) (c n w : Nat) (mb : Nat → Nat) (r k : Nat) : Int64 := if r < n then (if k < n then (I (c + 1) (r * 3 + k)).toInt64 else if k < w then (sp_rw I c (mb (k - n)) r).toInt64 else if k = w then (-(I (c + 2) r)).toInt64 else 0) else if k < n then (sp_rw I c (mb (r - n)) k).toInt64 else if k = w then (sp_bd I c (mb (r - n)) (nI 0)).toInt64 else if k = w + 1 then (sp_dft I c (mb (r - n))).toInt64 else 0

theorem tJ6_bitCount_0f7a4 {G : aw_G} {d : Nat} {Ω : aw_O} {I : aw_MI} {J : aw_MJ} {Q : Int32 → aw_O → aw_MI → aw_MJ → Prop} {x : Int32} (hQ : Q (sp_bc x) Ω I J) : aw_Call G MJ6_bitCount_0f7a4 d 0 0 [.int x] Ω I J (aw_QI Q) := by
  refine aw_enterF (by decide +kernel) rfl (Nat.le_of_ble_eq_true rfl) ?_
  show AW G MJ6_bitCount_0f7a4 (aw_nx Ω) d 0 0 (aw_QI Q) Ω I J 0 0 [.int x] 0 []
  refine aw_iload_n dJ6_bitCount_0f7a4_0 rfl ?_
  refine aw_iload_n dJ6_bitCount_0f7a4_1 rfl ?_
  refine aw_iconst (v := nI 1) dJ6_bitCount_0f7a4_2 (by decide) ?_
  refine aw_iushr dJ6_bitCount_0f7a4_3 ?_
  refine aw_ldcw (v := 1431655765) dJ6_bitCount_0f7a4_4 (aw_pl 435 (by decide +kernel) rfl) ?_
  refine aw_pc (pc2 := 7) rfl ?_
  refine aw_iand dJ6_bitCount_0f7a4_7 ?_
  refine aw_isub dJ6_bitCount_0f7a4_8 ?_
  refine aw_istore_n dJ6_bitCount_0f7a4_9 (by decide) ?_
  refine aw_lv (lv2 := [.int _]) rfl ?_
  refine aw_iload_n dJ6_bitCount_0f7a4_10 rfl ?_
  refine aw_ldcw (v := 858993459) dJ6_bitCount_0f7a4_11 (aw_pl 436 (by decide +kernel) rfl) ?_
  refine aw_iand dJ6_bitCount_0f7a4_14 ?_
  refine aw_pc (pc2 := 15) rfl ?_
  refine aw_iload_n dJ6_bitCount_0f7a4_15 rfl ?_
  refine aw_iconst (v := nI 2) dJ6_bitCount_0f7a4_16 (by decide) ?_
  refine aw_iushr dJ6_bitCount_0f7a4_17 ?_
  refine aw_ldcw (v := 858993459) dJ6_bitCount_0f7a4_18 (aw_pl 436 (by decide +kernel) rfl) ?_
  refine aw_iand dJ6_bitCount_0f7a4_21 ?_
  refine aw_iadd dJ6_bitCount_0f7a4_22 ?_
  refine aw_pc (pc2 := 23) rfl ?_
  refine aw_istore_n dJ6_bitCount_0f7a4_23 (by decide) ?_
  refine aw_lv (lv2 := [.int _]) rfl ?_
  refine aw_iload_n dJ6_bitCount_0f7a4_24 rfl ?_
  refine aw_iload_n dJ6_bitCount_0f7a4_25 rfl ?_
  refine aw_iconst (v := nI 4) dJ6_bitCount_0f7a4_26 (by decide) ?_
  refine aw_iushr dJ6_bitCount_0f7a4_27 ?_
  refine aw_iadd dJ6_bitCount_0f7a4_28 ?_
  refine aw_pc (pc2 := 29) rfl ?_
  refine aw_ldcw (v := 252645135) dJ6_bitCount_0f7a4_29 (aw_pl 437 (by decide +kernel) rfl) ?_
  refine aw_iand dJ6_bitCount_0f7a4_32 ?_
  refine aw_istore_n dJ6_bitCount_0f7a4_33 (by decide) ?_
  refine aw_lv (lv2 := [.int _]) rfl ?_
  refine aw_iload_n dJ6_bitCount_0f7a4_34 rfl ?_
  refine aw_iload_n dJ6_bitCount_0f7a4_35 rfl ?_
  refine aw_bipush (v := nI 8) dJ6_bitCount_0f7a4_36 (by decide) ?_
  refine aw_pc (pc2 := 38) rfl ?_
  refine aw_iushr dJ6_bitCount_0f7a4_38 ?_
  refine aw_iadd dJ6_bitCount_0f7a4_39 ?_
  refine aw_istore_n dJ6_bitCount_0f7a4_40 (by decide) ?_
  refine aw_lv (lv2 := [.int _]) rfl ?_
  refine aw_iload_n dJ6_bitCount_0f7a4_41 rfl ?_
  refine aw_iload_n dJ6_bitCount_0f7a4_42 rfl ?_
  refine aw_bipush (v := nI 16) dJ6_bitCount_0f7a4_43 (by decide) ?_
  refine aw_pc (pc2 := 45) rfl ?_
  refine aw_iushr dJ6_bitCount_0f7a4_45 ?_
  refine aw_iadd dJ6_bitCount_0f7a4_46 ?_
  refine aw_istore_n dJ6_bitCount_0f7a4_47 (by decide) ?_
  refine aw_lv (lv2 := [.int _]) rfl ?_
  refine aw_iload_n dJ6_bitCount_0f7a4_48 rfl ?_
  refine aw_bipush (v := nI 63) dJ6_bitCount_0f7a4_49 (by decide) ?_
  refine aw_iand dJ6_bitCount_0f7a4_51 ?_
  refine aw_pc (pc2 := 52) rfl ?_
  exact aw_iret dJ6_bitCount_0f7a4_52 rfl (hQ) (Nat.zero_le _) (Nat.zero_le _)
def sg_P (I0 I : aw_MI) (s l : Nat) (x : Int32) : Prop := (∀ a, a ≠ s + 15 → I a = I0 a) ∧ ∀ j, j < (sp_mb x l).length → I (s + 15) j = nI ((sp_mb x l).getD j 0)
theorem sg_t {I0 I : aw_MI} {s l : Nat} {x : Int32} (h : sg_P I0 I s l x) (hb : ¬ x >>> (nI l &&& 31) &&& nI 1 = 0) : sg_P I0 (aw_up I (s + 15) (sp_mb x l).length (nI l)) s (l + 1) x := by
  refine ⟨fun a ha => ?_, fun j hj => ?_⟩
  · rw [aw_up_off I _ ha, h.1 a ha]
  · rw [sp_mb_t hb] at hj ⊢
    simp only [List.length_append, List.length_cons, List.length_nil] at hj
    by_cases e : j = (sp_mb x l).length
    · subst e
      rw [aw_up_self]
      simp
    · rw [aw_up_ne I _ (Or.inr e), h.2 j (by omega), List.getD_eq_getElem?_getD, List.getD_eq_getElem?_getD, List.getElem?_append_left (by omega)]
theorem sg_f {I0 I : aw_MI} {s l : Nat} {x : Int32} (h : sg_P I0 I s l x) (hb : x >>> (nI l &&& 31) &&& nI 1 = 0) : sg_P I0 I s (l + 1) x := by
  unfold sg_P
  rw [sp_mb_f hb]
  exact h
def sf_I (s : Nat) (I I' : aw_MI) : Prop := ∀ a k, ¬ (a = s + 15 ∨ (a = s ∧ k = 11)) → I' a k = I a k
theorem lX6_gather {G : aw_G} {d : Nat} {Ω : aw_O} {I0 : aw_MI} {J : aw_MJ} {Q : aw_O → aw_MI → aw_MJ → Prop} {s c n m : Nat} {x : Int32} (hS : aw_solver Ω s c) (hn : I0 c 0 = nI n) (hn3 : n ≤ 3) (hm : I0 c 2 = nI m) (hm6 : m ≤ 6) (hcs : c + 6 < s) (hlen : (sp_mb x m).length ≤ 3) (hQ : ∀ I', sf_I s I0 I' → (∀ j, j < (sp_mb x m).length → I' (s + 15) j = nI ((sp_mb x m).getD j 0)) → I' s 11 = nI (n + (sp_mb x m).length) → Q Ω I' J) : ∀ (z l : Nat) (I : aw_MI), l ≤ m → m - l < z → sg_P I0 I s l x → AW G MX6_gather (aw_nx Ω) d 0 0 (aw_QV Q) Ω I J 0 0 [.ref (aw_ad G s), .int x, .int (nI ((sp_mb x l).length)), .int (nI l)] 4 [] := by
  intro z
  induction z with
  | zero =>
    intro l I h0 hz hP
    exact absurd hz (by omega)
  | succ z ih =>
    intro l I h0 hz hP
    refine aw_iload_n dX6_gather_4 rfl ?_
    refine aw_aload_n dX6_gather_5 rfl ?_
    refine aw_getR dX6_gather_6 flX6_36 hS.o hS.p0 ?_
    refine aw_getIv (v := nI m) dX6_gather_9 flX6_76 hS.q0.o (by rw [hP.1 c (by omega)]; exact hm) ?_
    refine aw_geN (t := 44) dX6_gather_12 (by decide) (by first | omega | (have := (sp_mb_len (x := x) (l := l) (m := m) (by omega)).1; omega)) (by first | omega | (have := (sp_mb_len (x := x) (l := l) (m := m) (by omega)).1; omega)) (fun h1 => ?_) (fun h1 => ?_)
    · skip
      refine aw_aload_n dX6_gather_44 rfl ?_
      refine aw_aload_n dX6_gather_45 rfl ?_
      refine aw_getR dX6_gather_46 flX6_36 hS.o hS.p0 ?_
      refine aw_getIv (v := nI n) dX6_gather_49 flX6_57 hS.q0.o (by rw [hP.1 c (by omega)]; exact hn) ?_
      refine aw_iload_n dX6_gather_52 rfl ?_
      refine aw_pc (pc2 := 53) rfl ?_
      refine aw_iaddN dX6_gather_53 ?_
      refine aw_putI dX6_gather_54 fwX6_79 hS.o rfl ?_
      have e9 : sp_mb x m = sp_mb x l := by rw [show l = m by omega]
      exact aw_vret dX6_gather_57 rfl (hQ _ (fun a k h9 => by
        rw [aw_up_ne I _ (by omega), hP.1 a (by omega)]) (fun j hj => by
        rw [aw_up_ne I _ (by omega), e9]
        exact hP.2 j (by rw [← e9]; exact hj)) (by rw [aw_up_self, e9])) (Nat.zero_le _) (Nat.zero_le _)
    · skip
      refine aw_iload_n dX6_gather_15 rfl ?_
      refine aw_iconst (v := nI 3) dX6_gather_16 (by decide) ?_
      refine aw_geN (t := 44) dX6_gather_17 (by decide) (by first | omega | (have := (sp_mb_len (x := x) (l := l) (m := m) (by omega)).1; omega)) (by first | omega | (have := (sp_mb_len (x := x) (l := l) (m := m) (by omega)).1; omega)) (fun h2 => ?_) (fun h2 => ?_)
      · skip
        refine aw_aload_n dX6_gather_44 rfl ?_
        refine aw_aload_n dX6_gather_45 rfl ?_
        refine aw_getR dX6_gather_46 flX6_36 hS.o hS.p0 ?_
        refine aw_getIv (v := nI n) dX6_gather_49 flX6_57 hS.q0.o (by rw [hP.1 c (by omega)]; exact hn) ?_
        refine aw_iload_n dX6_gather_52 rfl ?_
        refine aw_pc (pc2 := 53) rfl ?_
        refine aw_iaddN dX6_gather_53 ?_
        refine aw_putI dX6_gather_54 fwX6_79 hS.o rfl ?_
        have e9 : sp_mb x m = sp_mb x l := (sp_mb_len (x := x) (l := l) (m := m) (by omega)).2 (by omega)
        exact aw_vret dX6_gather_57 rfl (hQ _ (fun a k h9 => by
        rw [aw_up_ne I _ (by omega), hP.1 a (by omega)]) (fun j hj => by
        rw [aw_up_ne I _ (by omega), e9]
        exact hP.2 j (by rw [← e9]; exact hj)) (by rw [aw_up_self, e9])) (Nat.zero_le _) (Nat.zero_le _)
      · skip
        refine aw_iload_n dX6_gather_20 rfl ?_
        refine aw_iload_n dX6_gather_21 rfl ?_
        refine aw_ishr dX6_gather_22 ?_
        refine aw_iconst (v := nI 1) dX6_gather_23 (by decide) ?_
        refine aw_iand dX6_gather_24 ?_
        refine aw_pc (pc2 := 25) rfl ?_
        refine aw_if_eq (t := 38) dX6_gather_25 (by decide) (fun h3 => ?_) (fun h3 => ?_)
        · skip
          refine aw_iincN dX6_gather_38 rfl (by decide) ?_
          refine aw_lv (lv2 := [.ref _, .int _, .int _, .int _]) rfl ?_
          refine aw_goto (t := 4) dX6_gather_41 (by decide) ?_
          have e9 := sp_mb_f h3
          have q9 := ih (l + 1) I (by omega) (by omega) (sg_f hP h3)
          rw [e9] at q9
          exact q9
        · skip
          refine aw_aload_n dX6_gather_28 rfl ?_
          refine aw_getR dX6_gather_29 flX6_30 hS.o hS.p8 ?_
          refine aw_iload_n dX6_gather_32 rfl ?_
          refine aw_iload_n dX6_gather_33 rfl ?_
          refine aw_iast dX6_gather_34 hS.s8 rfl (by first | omega | (have := (sp_mb_len (x := x) (l := l) (m := m) (by omega)).1; omega)) rfl ?_
          refine aw_pc (pc2 := 35) rfl ?_
          refine aw_iincN dX6_gather_35 rfl (by decide) ?_
          refine aw_lv (lv2 := [.ref _, .int _, .int _, .int _]) rfl ?_
          refine aw_iincN dX6_gather_38 rfl (by decide) ?_
          refine aw_lv (lv2 := [.ref _, .int _, .int _, .int _]) rfl ?_
          refine aw_goto (t := 4) dX6_gather_41 (by decide) ?_
          have e9 : (sp_mb x (l + 1)).length = (sp_mb x l).length + 1 := by rw [sp_mb_t h3]; simp
          have q9 := ih (l + 1) _ (by omega) (by omega) (sg_t hP h3)
          rw [e9] at q9
          exact q9
theorem tX6_gather {G : aw_G} {d : Nat} {Ω : aw_O} {I : aw_MI} {J : aw_MJ} {Q : aw_O → aw_MI → aw_MJ → Prop} {s c n m : Nat} {x : Int32} (hS : aw_solver Ω s c) (hn : I c 0 = nI n) (hn3 : n ≤ 3) (hm : I c 2 = nI m) (hm6 : m ≤ 6) (hcs : c + 6 < s) (hlen : (sp_mb x m).length ≤ 3) (hQ : ∀ I', sf_I s I I' → (∀ j, j < (sp_mb x m).length → I' (s + 15) j = nI ((sp_mb x m).getD j 0)) → I' s 11 = nI (n + (sp_mb x m).length) → Q Ω I' J) : aw_Call G MX6_gather d 0 0 [.ref (aw_ad G s), .int x] Ω I J (aw_QV Q) := by
  refine aw_enter (by decide +kernel) rfl (Nat.le_of_ble_eq_true rfl) ?_
  show AW G MX6_gather (aw_nx Ω) d 0 0 (aw_QV Q) Ω I J 0 0 [.ref (aw_ad G s), .int x, .null, .null] 0 []
  refine aw_iconst (v := nI 0) dX6_gather_0 (by decide) ?_
  refine aw_istore_n dX6_gather_1 (by decide) ?_
  refine aw_lv (lv2 := [.ref _, .int _, .int _, .null]) rfl ?_
  refine aw_iconst (v := nI 0) dX6_gather_2 (by decide) ?_
  refine aw_istore_n dX6_gather_3 (by decide) ?_
  refine aw_lv (lv2 := [.ref _, .int _, .int _, .int _]) rfl ?_
  exact lX6_gather hS hn hn3 hm hm6 hcs hlen hQ (m + 1) 0 I (by omega) (by omega) ⟨fun _ _ => rfl, fun j hj => absurd hj (by simp [sp_mb])⟩
def sb_P (M : Nat → Nat → Int64) (J0 J : aw_MJ) (s n w i j : Nat) : Prop := (∀ r k, r < n → k < w + 2 → r < i ∨ (r = i ∧ k < j) → J (s + 9 + r) k = M r k) ∧ ∀ a, a < s + 9 ∨ s + 15 ≤ a → J a = J0 a
theorem sb_up {M : Nat → Nat → Int64} {J0 J : aw_MJ} {s n w i j : Nat} (h : sb_P M J0 J s n w i j) (hi : i < 6) {v : Int64} (hv : v = M i j) : sb_P M J0 (aw_up J (s + 9 + i) j v) s n w i (j + 1) := by
  refine ⟨fun r k h1 h2 h3 => ?_, fun a ha => ?_⟩
  · by_cases e : r = i ∧ k = j
    · obtain ⟨rfl, rfl⟩ := e
      rw [aw_up_self, hv]
    · rw [aw_up_ne J _ (by omega)]
      exact h.1 r k h1 h2 (by omega)
  · rw [aw_up_off J _ (by omega)]
    exact h.2 a ha
theorem sb_nx {M : Nat → Nat → Int64} {J0 J : aw_MJ} {s n w i : Nat} (h : sb_P M J0 J s n w i (w + 2)) : sb_P M J0 J s n w (i + 1) 0 := ⟨fun r k h1 h2 h3 => h.1 r k h1 h2 (by omega), h.2⟩
theorem lX6_fillBowlRows3 {G : aw_G} {d : Nat} {Ω : aw_O} {I : aw_MI} {Q : aw_O → aw_MI → aw_MJ → Prop} {s c n w i : Nat} {mb : Nat → Nat} {J0 : aw_MJ} (hS : aw_solver Ω s c) (hn : I c 0 = nI n) (hn3 : n ≤ 3) (hw : I s 11 = nI w) (hnw : n ≤ w) (hw6 : w ≤ 6) (hw3 : w ≤ n + 3) (hmb : ∀ j, j < w - n → I (s + 15) j = nI (mb j) ∧ mb j < 6) (hd : 1 ≤ d) (hi : i < n) (kk : ∀ J', sb_P (sp_mat I c n w mb) J0 J' s n w (i + 1) 0 → AW G MX6_fillBowlRows (aw_nx Ω) d 0 0 (aw_QV Q) Ω I J' 0 0 [.ref (aw_ad G s), .int (nI n), .int (nI (i + 1)), .null] 10 []) : ∀ (z j : Nat) (J : aw_MJ), n ≤ j → j ≤ w → w - j < z → sb_P (sp_mat I c n w mb) J0 J s n w i j → AW G MX6_fillBowlRows (aw_nx Ω) d 0 0 (aw_QV Q) Ω I J 0 0 [.ref (aw_ad G s), .int (nI n), .int (nI i), .int (nI j)] 48 [] := by
  intro z
  induction z with
  | zero =>
    intro j J hj1 hj2 hz hP
    exact absurd hz (by omega)
  | succ z ih =>
    intro j J hj1 hj2 hz hP
    refine aw_iload_n dX6_fillBowlRows_48 rfl ?_
    refine aw_aload_n dX6_fillBowlRows_49 rfl ?_
    refine aw_getIv (v := nI w) dX6_fillBowlRows_50 flX6_79 hS.o hw ?_
    refine aw_geN (t := 87) dX6_fillBowlRows_53 (by decide) (by omega) (by omega) (fun h1 => ?_) (fun h1 => ?_)
    · skip
      refine aw_aload_n dX6_fillBowlRows_87 rfl ?_
      refine aw_getR dX6_fillBowlRows_88 flX6_27 hS.o hS.p7 ?_
      refine aw_iload_n dX6_fillBowlRows_91 rfl ?_
      refine aw_aald dX6_fillBowlRows_92 hS.s7 rfl (by omega) ((hS.r i (by omega)).1) ?_
      refine aw_aload_n dX6_fillBowlRows_93 rfl ?_
      refine aw_pc (pc2 := 94) rfl ?_
      refine aw_getIv (v := nI w) dX6_fillBowlRows_94 flX6_79 hS.o hw ?_
      refine aw_aload_n dX6_fillBowlRows_97 rfl ?_
      refine aw_getR dX6_fillBowlRows_98 flX6_36 hS.o hS.p0 ?_
      refine aw_getR dX6_fillBowlRows_101 flX6_89 hS.q0.o hS.q0.p4 ?_
      refine aw_iload_n dX6_fillBowlRows_104 rfl ?_
      refine aw_iald dX6_fillBowlRows_105 hS.q0.s4 rfl (by omega) ?_
      refine aw_pc (pc2 := 106) rfl ?_
      refine aw_ineg dX6_fillBowlRows_106 ?_
      refine aw_i2l dX6_fillBowlRows_107 ?_
      refine aw_last dX6_fillBowlRows_108 (hS.r i (by omega)).2 rfl (by omega) rfl ?_
      refine aw_aload_n dX6_fillBowlRows_109 rfl ?_
      refine aw_getR dX6_fillBowlRows_110 flX6_27 hS.o hS.p7 ?_
      refine aw_iload_n dX6_fillBowlRows_113 rfl ?_
      refine aw_pc (pc2 := 114) rfl ?_
      refine aw_aald dX6_fillBowlRows_114 hS.s7 rfl (by omega) ((hS.r i (by omega)).1) ?_
      refine aw_aload_n dX6_fillBowlRows_115 rfl ?_
      refine aw_getIv (v := nI w) dX6_fillBowlRows_116 flX6_79 hS.o hw ?_
      refine aw_iconst (v := nI 1) dX6_fillBowlRows_119 (by decide) ?_
      refine aw_iaddN dX6_fillBowlRows_120 ?_
      refine aw_lconst (v := 0) dX6_fillBowlRows_121 (by decide) ?_
      refine aw_pc (pc2 := 122) rfl ?_
      refine aw_last dX6_fillBowlRows_122 (hS.r i (by omega)).2 rfl (by omega) rfl ?_
      refine aw_iincN dX6_fillBowlRows_123 rfl (by decide) ?_
      refine aw_lv (lv2 := [.ref _, .int _, .int _, .int _]) rfl ?_
      refine aw_goto (t := 10) dX6_fillBowlRows_126 (by decide) ?_
      have e1 : j = w := by omega
      subst e1
      refine aw_frg 3 ?_
      exact kk _ (sb_nx (sb_up (sb_up hP (by omega) (by rw [sp_mat, if_pos hi, if_neg (by omega), if_neg (by omega), if_pos rfl])) (by omega) (by rw [sp_mat, if_pos hi, if_neg (by omega), if_neg (by omega), if_neg (by omega)])))
    · skip
      refine aw_aload_n dX6_fillBowlRows_56 rfl ?_
      refine aw_getR dX6_fillBowlRows_57 flX6_27 hS.o hS.p7 ?_
      refine aw_iload_n dX6_fillBowlRows_60 rfl ?_
      refine aw_aald dX6_fillBowlRows_61 hS.s7 rfl (by omega) ((hS.r i (by omega)).1) ?_
      refine aw_iload_n dX6_fillBowlRows_62 rfl ?_
      refine aw_pc (pc2 := 63) rfl ?_
      refine aw_aload_n dX6_fillBowlRows_63 rfl ?_
      refine aw_getR dX6_fillBowlRows_64 flX6_36 hS.o hS.p0 ?_
      refine aw_aload_n dX6_fillBowlRows_67 rfl ?_
      refine aw_getR dX6_fillBowlRows_68 flX6_30 hS.o hS.p8 ?_
      refine aw_iload_n dX6_fillBowlRows_71 rfl ?_
      refine aw_iload_n dX6_fillBowlRows_72 rfl ?_
      refine aw_pc (pc2 := 73) rfl ?_
      refine aw_isubN dX6_fillBowlRows_73 (by omega) ?_
      refine aw_ialdv (v := nI (mb (j - n))) dX6_fillBowlRows_74 hS.s8 rfl (by omega) (hmb (j - n) (by omega)).1 ?_
      refine aw_iload_n dX6_fillBowlRows_75 rfl ?_
      refine aw_cvI (As := [_, _]) (d' := d - 1) dX6_fillBowlRows_76 lkX6_86 hS.q0.o (by omega) rfl rfl (Nat.le_of_ble_eq_true rfl) ⟨Nat.le_refl _, Nat.le_refl _⟩ (tX1_rowOf hS.q0 (hmb (j - n) (by omega)).2 (by omega) ?_)
      refine aw_i2l dX6_fillBowlRows_79 ?_
      refine aw_last dX6_fillBowlRows_80 (hS.r i (by omega)).2 rfl (by omega) rfl ?_
      refine aw_pc (pc2 := 81) rfl ?_
      refine aw_iincN dX6_fillBowlRows_81 rfl (by decide) ?_
      refine aw_lv (lv2 := [.ref _, .int _, .int _, .int _]) rfl ?_
      refine aw_goto (t := 48) dX6_fillBowlRows_84 (by decide) ?_
      exact ih (j + 1) _ (by omega) (by omega) (by omega) (sb_up hP (by omega) (by rw [sp_mat, if_pos hi, if_neg (by omega), if_pos (by omega)]; rfl))
theorem lX6_fillBowlRows2 {G : aw_G} {d : Nat} {Ω : aw_O} {I : aw_MI} {Q : aw_O → aw_MI → aw_MJ → Prop} {s c n w i : Nat} {mb : Nat → Nat} {J0 : aw_MJ} (hS : aw_solver Ω s c) (hn : I c 0 = nI n) (hn3 : n ≤ 3) (hw : I s 11 = nI w) (hnw : n ≤ w) (hw6 : w ≤ 6) (hw3 : w ≤ n + 3) (hmb : ∀ j, j < w - n → I (s + 15) j = nI (mb j) ∧ mb j < 6) (hd : 1 ≤ d) (hi : i < n) (kk : ∀ J', sb_P (sp_mat I c n w mb) J0 J' s n w (i + 1) 0 → AW G MX6_fillBowlRows (aw_nx Ω) d 0 0 (aw_QV Q) Ω I J' 0 0 [.ref (aw_ad G s), .int (nI n), .int (nI (i + 1)), .null] 10 []) : ∀ (z j : Nat) (J : aw_MJ), j ≤ n → n - j < z → sb_P (sp_mat I c n w mb) J0 J s n w i j → AW G MX6_fillBowlRows (aw_nx Ω) d 0 0 (aw_QV Q) Ω I J 0 0 [.ref (aw_ad G s), .int (nI n), .int (nI i), .int (nI j)] 17 [] := by
  intro z
  induction z with
  | zero =>
    intro j J hj2 hz hP
    exact absurd hz (by omega)
  | succ z ih =>
    intro j J hj2 hz hP
    refine aw_iload_n dX6_fillBowlRows_17 rfl ?_
    refine aw_iload_n dX6_fillBowlRows_18 rfl ?_
    refine aw_geN (t := 46) dX6_fillBowlRows_19 (by decide) (by omega) (by omega) (fun h1 => ?_) (fun h1 => ?_)
    · skip
      refine aw_iload_n dX6_fillBowlRows_46 rfl ?_
      refine aw_istore_n dX6_fillBowlRows_47 (by decide) ?_
      refine aw_lv (lv2 := [.ref _, .int _, .int _, .int _]) rfl ?_
      have e1 : j = n := by omega
      subst e1
      exact lX6_fillBowlRows3 hS hn hn3 hw hnw hw6 hw3 hmb hd hi kk (w + 1) _ _ (by omega) (by omega) (by omega) hP
    · skip
      refine aw_aload_n dX6_fillBowlRows_22 rfl ?_
      refine aw_getR dX6_fillBowlRows_23 flX6_27 hS.o hS.p7 ?_
      refine aw_iload_n dX6_fillBowlRows_26 rfl ?_
      refine aw_aald dX6_fillBowlRows_27 hS.s7 rfl (by omega) ((hS.r i (by omega)).1) ?_
      refine aw_iload_n dX6_fillBowlRows_28 rfl ?_
      refine aw_pc (pc2 := 29) rfl ?_
      refine aw_aload_n dX6_fillBowlRows_29 rfl ?_
      refine aw_getR dX6_fillBowlRows_30 flX6_36 hS.o hS.p0 ?_
      refine aw_iload_n dX6_fillBowlRows_33 rfl ?_
      refine aw_iload_n dX6_fillBowlRows_34 rfl ?_
      refine aw_cvI (As := [_, _]) (d' := d - 1) dX6_fillBowlRows_35 lkX6_82 hS.q0.o (by omega) rfl rfl (Nat.le_of_ble_eq_true rfl) ⟨Nat.le_refl _, Nat.le_refl _⟩ (tX1_bendOf hS.q0 (by omega) (by omega) ?_)
      refine aw_i2l dX6_fillBowlRows_38 ?_
      refine aw_pc (pc2 := 39) rfl ?_
      refine aw_last dX6_fillBowlRows_39 (hS.r i (by omega)).2 rfl (by omega) rfl ?_
      refine aw_iincN dX6_fillBowlRows_40 rfl (by decide) ?_
      refine aw_lv (lv2 := [.ref _, .int _, .int _, .int _]) rfl ?_
      refine aw_goto (t := 17) dX6_fillBowlRows_43 (by decide) ?_
      exact ih (j + 1) _ (by omega) (by omega) (sb_up hP (by omega) (by rw [sp_mat, if_pos hi, if_pos (by omega)]))
theorem lX6_fillBowlRows1 {G : aw_G} {d : Nat} {Ω : aw_O} {I : aw_MI} {Q : aw_O → aw_MI → aw_MJ → Prop} {s c n w : Nat} {mb : Nat → Nat} {J0 : aw_MJ} (hS : aw_solver Ω s c) (hn : I c 0 = nI n) (hn3 : n ≤ 3) (hw : I s 11 = nI w) (hnw : n ≤ w) (hw6 : w ≤ 6) (hw3 : w ≤ n + 3) (hmb : ∀ j, j < w - n → I (s + 15) j = nI (mb j) ∧ mb j < 6) (hd : 1 ≤ d) (hQ : ∀ J', (∀ r k, r < n → k < w + 2 → J' (s + 9 + r) k = (sp_mat I c n w mb) r k) → (∀ a, a < s + 9 ∨ s + 15 ≤ a → J' a = J0 a) → Q Ω I J') : ∀ (z i : Nat) (J : aw_MJ), i ≤ n → n - i < z → sb_P (sp_mat I c n w mb) J0 J s n w i 0 → AW G MX6_fillBowlRows (aw_nx Ω) d 0 0 (aw_QV Q) Ω I J 0 0 [.ref (aw_ad G s), .int (nI n), .int (nI i), .null] 10 [] := by
  intro z
  induction z with
  | zero =>
    intro i J hi2 hz hP
    exact absurd hz (by omega)
  | succ z ih =>
    intro i J hi2 hz hP
    refine aw_iload_n dX6_fillBowlRows_10 rfl ?_
    refine aw_iload_n dX6_fillBowlRows_11 rfl ?_
    refine aw_geN (t := 129) dX6_fillBowlRows_12 (by decide) (by omega) (by omega) (fun h1 => ?_) (fun h1 => ?_)
    · skip
      exact aw_vret dX6_fillBowlRows_129 rfl (hQ J (fun r k h8 h9 => hP.1 r k h8 h9 (by omega)) hP.2) (Nat.zero_le _) (Nat.zero_le _)
    · skip
      refine aw_iconst (v := nI 0) dX6_fillBowlRows_15 (by decide) ?_
      refine aw_istore_n dX6_fillBowlRows_16 (by decide) ?_
      refine aw_lv (lv2 := [.ref _, .int _, .int _, .int _]) rfl ?_
      exact lX6_fillBowlRows2 hS hn hn3 hw hnw hw6 hw3 hmb hd (by omega) (fun J' hP' => ih (i + 1) J' (by omega) (by omega) hP') (n + 1) 0 J (by omega) (by omega) hP
theorem tX6_fillBowlRows {G : aw_G} {d : Nat} {Ω : aw_O} {I : aw_MI} {J : aw_MJ} {Q : aw_O → aw_MI → aw_MJ → Prop} {s c n w : Nat} {mb : Nat → Nat} (hS : aw_solver Ω s c) (hn : I c 0 = nI n) (hn3 : n ≤ 3) (hw : I s 11 = nI w) (hnw : n ≤ w) (hw6 : w ≤ 6) (hw3 : w ≤ n + 3) (hmb : ∀ j, j < w - n → I (s + 15) j = nI (mb j) ∧ mb j < 6) (hd : 1 ≤ d) (hQ : ∀ J', (∀ r k, r < n → k < w + 2 → J' (s + 9 + r) k = (sp_mat I c n w mb) r k) → (∀ a, a < s + 9 ∨ s + 15 ≤ a → J' a = J a) → Q Ω I J') : aw_Call G MX6_fillBowlRows d 0 0 [.ref (aw_ad G s)] Ω I J (aw_QV Q) := by
  refine aw_enter (by decide +kernel) rfl (Nat.le_of_ble_eq_true rfl) ?_
  show AW G MX6_fillBowlRows (aw_nx Ω) d 0 0 (aw_QV Q) Ω I J 0 0 [.ref (aw_ad G s), .null, .null, .null] 0 []
  refine aw_aload_n dX6_fillBowlRows_0 rfl ?_
  refine aw_getR dX6_fillBowlRows_1 flX6_36 hS.o hS.p0 ?_
  refine aw_getIv (v := nI n) dX6_fillBowlRows_4 flX6_57 hS.q0.o hn ?_
  refine aw_istore_n dX6_fillBowlRows_7 (by decide) ?_
  refine aw_lv (lv2 := [.ref _, .int _, .null, .null]) rfl ?_
  refine aw_iconst (v := nI 0) dX6_fillBowlRows_8 (by decide) ?_
  refine aw_pc (pc2 := 9) rfl ?_
  refine aw_istore_n dX6_fillBowlRows_9 (by decide) ?_
  refine aw_lv (lv2 := [.ref _, .int _, .int _, .null]) rfl ?_
  exact lX6_fillBowlRows1 hS hn hn3 hw hnw hw6 hw3 hmb hd hQ (n + 1) 0 J (by omega) (by omega) ⟨fun r k _ _ h9 => absurd h9 (by omega), fun _ _ => rfl⟩
def sl_P (M : Nat → Nat → Int64) (J0 J : aw_MJ) (s w i : Nat) : Prop := (∀ r k, r < i → k < w + 2 → J (s + 9 + r) k = M r k) ∧ ∀ a, a < s + 9 ∨ s + 15 ≤ a → J a = J0 a
def sl_R (M : Nat → Nat → Int64) (J : aw_MJ) (s w i j : Nat) : Prop := ∀ k, k < w + 2 → J (s + 9 + i) k = if k < j then M i k else 0
theorem sl_up {M : Nat → Nat → Int64} {J0 J : aw_MJ} {s w i k : Nat} {v : Int64} (h : sl_P M J0 J s w i) (hi : i < 6) : sl_P M J0 (aw_up J (s + 9 + i) k v) s w i := by
  refine ⟨fun r k' h1 h2 => ?_, fun a ha => ?_⟩
  · rw [aw_up_off J _ (by omega)]
    exact h.1 r k' h1 h2
  · rw [aw_up_off J _ (by omega)]
    exact h.2 a ha
theorem sl_fl {M : Nat → Nat → Int64} {J0 J : aw_MJ} {s w i : Nat} {v : Int64} (h : sl_P M J0 J s w i) (hi : i < 6) : sl_P M J0 (aw_fill J (s + 9 + i) 8 v) s w i := by
  refine ⟨fun r k' h1 h2 => ?_, fun a ha => ?_⟩
  · rw [aw_fill_off J _ (by omega)]
    exact h.1 r k' h1 h2
  · rw [aw_fill_off J _ (by omega)]
    exact h.2 a ha
theorem sl_r0 {M : Nat → Nat → Int64} {J : aw_MJ} {s w i : Nat} (hw : w ≤ 6) : sl_R M (aw_fill J (s + 9 + i) 8 0) s w i 0 := by
  intro k hk
  unfold aw_fill
  rw [if_pos (by omega), if_neg (by omega)]
theorem sl_ru {M : Nat → Nat → Int64} {J : aw_MJ} {s w i j : Nat} {v : Int64} (h : sl_R M J s w i j) (hv : v = M i j) : sl_R M (aw_up J (s + 9 + i) j v) s w i (j + 1) := by
  intro k hk
  by_cases e : k = j
  · subst e
    rw [aw_up_self, hv, if_pos (by omega)]
  · rw [aw_up_ne J _ (Or.inr e), h k hk]
    by_cases e2 : k < j
    · rw [if_pos e2, if_pos (by omega)]
    · rw [if_neg e2, if_neg (by omega)]
theorem sl_end {M : Nat → Nat → Int64} {J0 J : aw_MJ} {s w n i : Nat} {u v : Int64} (h : sl_P M J0 J s w i) (hr : sl_R M J s w i n) (hi : i < 6) (h0 : ∀ k, n ≤ k → k < w → M i k = 0) (hu : u = M i w) (hv : v = M i (w + 1)) : sl_P M J0 (aw_up (aw_up J (s + 9 + i) w u) (s + 9 + i) (w + 1) v) s w (i + 1) := by
  have h2 := sl_up (k := w + 1) (v := v) (sl_up (k := w) (v := u) h hi) hi
  refine ⟨fun r k h3 h4 => ?_, h2.2⟩
  by_cases e : r = i
  · subst e
    by_cases e1 : k = w + 1
    · subst e1
      rw [aw_up_self, hv]
    · rw [aw_up_ne _ _ (Or.inr e1)]
      by_cases e3 : k = w
      · subst e3
        rw [aw_up_self, hu]
      · rw [aw_up_ne _ _ (Or.inr e3), hr k h4]
        by_cases e4 : k < n
        · rw [if_pos e4]
        · rw [if_neg e4, h0 k (by omega) (by omega)]
  · exact h2.1 r k (by omega) h4
theorem lX6_fillLineRows2 {G : aw_G} {d : Nat} {Ω : aw_O} {I : aw_MI} {Q : aw_O → aw_MI → aw_MJ → Prop} {s c n w i : Nat} {mb : Nat → Nat} {J0 : aw_MJ} (hS : aw_solver Ω s c) (hn : I c 0 = nI n) (hn3 : n ≤ 3) (hw : I s 11 = nI w) (hnw : n ≤ w) (hw6 : w ≤ 6) (hw3 : w ≤ n + 3) (hmb : ∀ j, j < w - n → I (s + 15) j = nI (mb j) ∧ mb j < 6) (hd : 2 ≤ d) (hi : n ≤ i) (hiw : i < w) (kk : ∀ J', sl_P (sp_mat I c n w mb) J0 J' s w (i + 1) → AW G MX6_fillLineRows (aw_nx Ω) d 0 0 (aw_QV Q) Ω I J' 0 0 [.ref (aw_ad G s), .int (nI n), .int (nI (i + 1)), .null, .null] 10 []) : ∀ (z j : Nat) (J : aw_MJ), j ≤ n → n - j < z → sl_P (sp_mat I c n w mb) J0 J s w i → sl_R (sp_mat I c n w mb) J s w i j → AW G MX6_fillLineRows (aw_nx Ω) d 0 0 (aw_QV Q) Ω I J 0 0 [.ref (aw_ad G s), .int (nI n), .int (nI i), .int (nI (mb (i - n))), .int (nI j)] 40 [] := by
  intro z
  induction z with
  | zero =>
    intro j J hj2 hz hP hR
    exact absurd hz (by omega)
  | succ z ih =>
    intro j J hj2 hz hP hR
    refine aw_iload dX6_fillLineRows_40 rfl ?_
    refine aw_iload_n dX6_fillLineRows_42 rfl ?_
    refine aw_geN (t := 72) dX6_fillLineRows_43 (by decide) (by omega) (by omega) (fun h1 => ?_) (fun h1 => ?_)
    · skip
      refine aw_aload_n dX6_fillLineRows_72 rfl ?_
      refine aw_getR dX6_fillLineRows_73 flX6_27 hS.o hS.p7 ?_
      refine aw_iload_n dX6_fillLineRows_76 rfl ?_
      refine aw_aald dX6_fillLineRows_77 hS.s7 rfl (by omega) ((hS.r i (by omega)).1) ?_
      refine aw_aload_n dX6_fillLineRows_78 rfl ?_
      refine aw_pc (pc2 := 79) rfl ?_
      refine aw_getIv (v := nI w) dX6_fillLineRows_79 flX6_79 hS.o hw ?_
      refine aw_aload_n dX6_fillLineRows_82 rfl ?_
      refine aw_getR dX6_fillLineRows_83 flX6_36 hS.o hS.p0 ?_
      refine aw_iload_n dX6_fillLineRows_86 rfl ?_
      refine aw_iconst (v := nI 0) dX6_fillLineRows_87 (by decide) ?_
      refine aw_cvI (As := [_, _]) (d' := d - 1) dX6_fillLineRows_88 lkX6_98 hS.q0.o (by omega) rfl rfl (Nat.le_of_ble_eq_true rfl) ⟨Nat.le_refl _, Nat.le_refl _⟩ (tX1_boundOf hS.q0 (hmb (i - n) (by omega)).2 ?_)
      refine aw_pc (pc2 := 91) rfl ?_
      refine aw_i2l dX6_fillLineRows_91 ?_
      refine aw_last dX6_fillLineRows_92 (hS.r i (by omega)).2 rfl (by omega) rfl ?_
      refine aw_aload_n dX6_fillLineRows_93 rfl ?_
      refine aw_getR dX6_fillLineRows_94 flX6_27 hS.o hS.p7 ?_
      refine aw_iload_n dX6_fillLineRows_97 rfl ?_
      refine aw_aald dX6_fillLineRows_98 hS.s7 rfl (by omega) ((hS.r i (by omega)).1) ?_
      refine aw_pc (pc2 := 99) rfl ?_
      refine aw_aload_n dX6_fillLineRows_99 rfl ?_
      refine aw_getIv (v := nI w) dX6_fillLineRows_100 flX6_79 hS.o hw ?_
      refine aw_iconst (v := nI 1) dX6_fillLineRows_103 (by decide) ?_
      refine aw_iaddN dX6_fillLineRows_104 ?_
      refine aw_aload_n dX6_fillLineRows_105 rfl ?_
      refine aw_getR dX6_fillLineRows_106 flX6_36 hS.o hS.p0 ?_
      refine aw_pc (pc2 := 109) rfl ?_
      refine aw_iload_n dX6_fillLineRows_109 rfl ?_
      refine aw_cvI (As := [_]) (d' := d - 1) dX6_fillLineRows_110 lkX6_101 hS.q0.o (by omega) rfl rfl (Nat.le_of_ble_eq_true rfl) ⟨Nat.le_refl _, Nat.le_refl _⟩ (tX1_driftOf hS.q0 (hmb (i - n) (by omega)).2 (by omega) ?_)
      refine aw_i2l dX6_fillLineRows_113 ?_
      refine aw_last dX6_fillLineRows_114 (hS.r i (by omega)).2 rfl (by omega) rfl ?_
      refine aw_iincN dX6_fillLineRows_115 rfl (by decide) ?_
      refine aw_lv (lv2 := [.ref _, .int _, .int _, .int _, .int _]) rfl ?_
      refine aw_goto (t := 10) dX6_fillLineRows_118 (by decide) ?_
      have e1 : j = n := by omega
      subst e1
      refine aw_frg 3 ?_
      refine aw_frg 4 ?_
      exact kk _ (sl_end hP hR (by omega) (fun k h8 h9 => by rw [sp_mat, if_neg (by omega), if_neg (by omega), if_neg (by omega), if_neg (by omega)]) (by rw [sp_mat, if_neg (by omega), if_neg (by omega), if_pos rfl]; rfl) (by rw [sp_mat, if_neg (by omega), if_neg (by omega), if_neg (by omega), if_pos rfl]; rfl))
    · skip
      refine aw_aload_n dX6_fillLineRows_46 rfl ?_
      refine aw_getR dX6_fillLineRows_47 flX6_27 hS.o hS.p7 ?_
      refine aw_iload_n dX6_fillLineRows_50 rfl ?_
      refine aw_aald dX6_fillLineRows_51 hS.s7 rfl (by omega) ((hS.r i (by omega)).1) ?_
      refine aw_iload dX6_fillLineRows_52 rfl ?_
      refine aw_pc (pc2 := 54) rfl ?_
      refine aw_aload_n dX6_fillLineRows_54 rfl ?_
      refine aw_getR dX6_fillLineRows_55 flX6_36 hS.o hS.p0 ?_
      refine aw_iload_n dX6_fillLineRows_58 rfl ?_
      refine aw_iload dX6_fillLineRows_59 rfl ?_
      refine aw_cvI (As := [_, _]) (d' := d - 1) dX6_fillLineRows_61 lkX6_86 hS.q0.o (by omega) rfl rfl (Nat.le_of_ble_eq_true rfl) ⟨Nat.le_refl _, Nat.le_refl _⟩ (tX1_rowOf hS.q0 (hmb (i - n) (by omega)).2 (by omega) ?_)
      refine aw_i2l dX6_fillLineRows_64 ?_
      refine aw_pc (pc2 := 65) rfl ?_
      refine aw_last dX6_fillLineRows_65 (hS.r i (by omega)).2 rfl (by omega) rfl ?_
      refine aw_iincN dX6_fillLineRows_66 rfl (by decide) ?_
      refine aw_lv (lv2 := [.ref _, .int _, .int _, .int _, .int _]) rfl ?_
      refine aw_goto (t := 40) dX6_fillLineRows_69 (by decide) ?_
      exact ih (j + 1) _ (by omega) (by omega) (sl_up hP (by omega)) (sl_ru hR (by rw [sp_mat, if_neg (by omega), if_pos (by omega)]; rfl))
theorem lX6_fillLineRows1 {G : aw_G} {d : Nat} {Ω : aw_O} {I : aw_MI} {Q : aw_O → aw_MI → aw_MJ → Prop} {s c n w : Nat} {mb : Nat → Nat} {J0 : aw_MJ} (hS : aw_solver Ω s c) (hn : I c 0 = nI n) (hn3 : n ≤ 3) (hw : I s 11 = nI w) (hnw : n ≤ w) (hw6 : w ≤ 6) (hw3 : w ≤ n + 3) (hmb : ∀ j, j < w - n → I (s + 15) j = nI (mb j) ∧ mb j < 6) (hd : 2 ≤ d) (hQ : ∀ J', (∀ r k, r < w → k < w + 2 → J' (s + 9 + r) k = (sp_mat I c n w mb) r k) → (∀ a, a < s + 9 ∨ s + 15 ≤ a → J' a = J0 a) → Q Ω I J') : ∀ (z i : Nat) (J : aw_MJ), n ≤ i → i ≤ w → w - i < z → sl_P (sp_mat I c n w mb) J0 J s w i → AW G MX6_fillLineRows (aw_nx Ω) d 0 0 (aw_QV Q) Ω I J 0 0 [.ref (aw_ad G s), .int (nI n), .int (nI i), .null, .null] 10 [] := by
  intro z
  induction z with
  | zero =>
    intro i J hi1 hi2 hz hP
    exact absurd hz (by omega)
  | succ z ih =>
    intro i J hi1 hi2 hz hP
    refine aw_iload_n dX6_fillLineRows_10 rfl ?_
    refine aw_aload_n dX6_fillLineRows_11 rfl ?_
    refine aw_getIv (v := nI w) dX6_fillLineRows_12 flX6_79 hS.o hw ?_
    refine aw_geN (t := 121) dX6_fillLineRows_15 (by decide) (by omega) (by omega) (fun h1 => ?_) (fun h1 => ?_)
    · skip
      exact aw_vret dX6_fillLineRows_121 rfl (hQ J (fun r k h8 h9 => hP.1 r k (by omega) h9) hP.2) (Nat.zero_le _) (Nat.zero_le _)
    · skip
      refine aw_aload_n dX6_fillLineRows_18 rfl ?_
      refine aw_getR dX6_fillLineRows_19 flX6_30 hS.o hS.p8 ?_
      refine aw_iload_n dX6_fillLineRows_22 rfl ?_
      refine aw_iload_n dX6_fillLineRows_23 rfl ?_
      refine aw_isubN dX6_fillLineRows_24 (by omega) ?_
      refine aw_pc (pc2 := 25) rfl ?_
      refine aw_ialdv (v := nI (mb (i - n))) dX6_fillLineRows_25 hS.s8 rfl (by omega) (hmb (i - n) (by omega)).1 ?_
      refine aw_istore_n dX6_fillLineRows_26 (by decide) ?_
      refine aw_lv (lv2 := [.ref _, .int _, .int _, .int _, .null]) rfl ?_
      refine aw_aload_n dX6_fillLineRows_27 rfl ?_
      refine aw_getR dX6_fillLineRows_28 flX6_27 hS.o hS.p7 ?_
      refine aw_iload_n dX6_fillLineRows_31 rfl ?_
      refine aw_aald dX6_fillLineRows_32 hS.s7 rfl (by omega) ((hS.r i (by omega)).1) ?_
      refine aw_pc (pc2 := 33) rfl ?_
      refine aw_lconst (v := 0) dX6_fillLineRows_33 (by decide) ?_
      refine aw_csV (As := [_, _]) (d' := d - 1) dX6_fillLineRows_34 lkX6_92 (by omega) rfl rfl (Nat.le_of_ble_eq_true rfl) ⟨Nat.le_refl _, Nat.le_refl _⟩ (tJ7_fill_d0a16 (hS.r i (by omega)).2 (by decide) ?_)
      refine aw_iconst (v := nI 0) dX6_fillLineRows_37 (by decide) ?_
      refine aw_istore dX6_fillLineRows_38 (by decide) ?_
      refine aw_lv (lv2 := [.ref _, .int _, .int _, .int _, .int _]) rfl ?_
      exact lX6_fillLineRows2 hS hn hn3 hw hnw hw6 hw3 hmb hd (by omega) (by omega) (fun J' hP' => ih (i + 1) J' (by omega) (by omega) (by omega) hP') (n + 1) 0 _ (by omega) (by omega) (sl_fl hP (by omega)) (sl_r0 hw6)
theorem tX6_fillLineRows {G : aw_G} {d : Nat} {Ω : aw_O} {I : aw_MI} {J : aw_MJ} {Q : aw_O → aw_MI → aw_MJ → Prop} {s c n w : Nat} {mb : Nat → Nat} (hS : aw_solver Ω s c) (hn : I c 0 = nI n) (hn3 : n ≤ 3) (hw : I s 11 = nI w) (hnw : n ≤ w) (hw6 : w ≤ 6) (hw3 : w ≤ n + 3) (hmb : ∀ j, j < w - n → I (s + 15) j = nI (mb j) ∧ mb j < 6) (hd : 2 ≤ d) (hJ : ∀ r k, r < n → k < w + 2 → J (s + 9 + r) k = (sp_mat I c n w mb) r k) (hQ : ∀ J', (∀ r k, r < w → k < w + 2 → J' (s + 9 + r) k = (sp_mat I c n w mb) r k) → (∀ a, a < s + 9 ∨ s + 15 ≤ a → J' a = J a) → Q Ω I J') : aw_Call G MX6_fillLineRows d 0 0 [.ref (aw_ad G s)] Ω I J (aw_QV Q) := by
  refine aw_enter (by decide +kernel) rfl (Nat.le_of_ble_eq_true rfl) ?_
  show AW G MX6_fillLineRows (aw_nx Ω) d 0 0 (aw_QV Q) Ω I J 0 0 [.ref (aw_ad G s), .null, .null, .null, .null] 0 []
  refine aw_aload_n dX6_fillLineRows_0 rfl ?_
  refine aw_getR dX6_fillLineRows_1 flX6_36 hS.o hS.p0 ?_
  refine aw_getIv (v := nI n) dX6_fillLineRows_4 flX6_57 hS.q0.o hn ?_
  refine aw_istore_n dX6_fillLineRows_7 (by decide) ?_
  refine aw_lv (lv2 := [.ref _, .int _, .null, .null, .null]) rfl ?_
  refine aw_iload_n dX6_fillLineRows_8 rfl ?_
  refine aw_pc (pc2 := 9) rfl ?_
  refine aw_istore_n dX6_fillLineRows_9 (by decide) ?_
  refine aw_lv (lv2 := [.ref _, .int _, .int _, .null, .null]) rfl ?_
  exact lX6_fillLineRows1 hS hn hn3 hw hnw hw6 hw3 hmb hd hQ (w + 1) n J (by omega) (by omega) (by omega) ⟨hJ, fun _ _ => rfl⟩

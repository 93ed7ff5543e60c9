/-! THE REFERENCE: the walk, pieces -/
def rw_f (h : Nat → Bool) : Nat → Nat → Nat
  | l, 0 => l
  | l, z + 1 => if h l = true then rw_f h (l + 1) z else l
def rx_hb (I : aw_MI) (n m : Nat) (t : Int32) (w l : Nat) : Bool := decide (¬ sp_held (I 68 (6 * l)) (rx_sl I n m w t l) = 0)
def rw_lf (I : aw_MI) (n m : Nat) (w : Nat) : Nat := rw_f (rx_hb I n m (I 65 3) w) 0 m
def rw_nx (I : aw_MI) (n m : Nat) (w : Nat) : Int32 := rx_res I n m (w ||| 2 ^ rw_lf I n m w)
def rw_go (lf : Nat → Nat) (nx : Nat → Int32) (m : Nat) : Nat → Int32 → List Int32 × Int32
  | 0, _ => ([], nI 0)
  | z + 1, st => if st = -1 then ([], nI 0) else if lf st.toNatClampNeg = m then ([st], nI 1) else (st :: (rw_go lf nx m z (nx st.toNatClampNeg)).1, (rw_go lf nx m z (nx st.toNatClampNeg)).2)
def rw_T (lf : Nat → Nat) (nx : Nat → Int32) (m : Nat) : Nat → Int32 → Prop
  | 0, st => st = -1
  | z + 1, st => st = -1 ∨ lf st.toNatClampNeg = m ∨ rw_T lf nx m z (nx st.toNatClampNeg)
theorem rw_f_le (h : Nat → Bool) : ∀ z l, l ≤ rw_f h l z ∧ rw_f h l z ≤ l + z
  | 0, l => ⟨Nat.le_refl _, Nat.le_refl _⟩
  | z + 1, l => by
    unfold rw_f
    by_cases e : h l = true
    · rw [if_pos e]
      have := rw_f_le h z (l + 1)
      omega
    · rw [if_neg e]
      omega
theorem or_nI : ∀ w, w < 64 → ∀ l, l < 6 → nI w ||| nI 1 <<< (nI l &&& 31) = nI (w ||| 2 ^ l) := by decide +kernel
theorem or_lt {w l m : Nat} (hw : w < 2 ^ m) (hl : l < m) : w ||| 2 ^ l < 2 ^ m := Nat.or_lt_two_pow hw (Nat.pow_lt_pow_right (by decide) hl)
def wr_I (I I' : aw_MI) : Prop := ∀ a k, ¬ (a = 65 ∧ (k = 13 ∨ k = 24)) → ¬ (a = 77 ∨ a = 79) → I' a k = I a k
theorem wr_I.E {I I' : aw_MI} (h : wr_I I I') : rx_E I I' := ⟨funext fun k => h 66 k (by omega) (by omega), funext fun k => h 67 k (by omega) (by omega), funext fun k => h 68 k (by omega) (by omega)⟩
theorem wr_I.tr {I I' I2 : aw_MI} (h : wr_I I I') (g : wr_I I' I2) : wr_I I I2 := fun a k h1 h2 => (g a k h1 h2).trans (h a k h1 h2)
theorem mr_wr {I I' : aw_MI} (h : mr_I I I') : wr_I I I' := fun a k h1 h2 => h a k (by omega) (by omega)
def wk_P (I0 I : aw_MI) (ys : List Int32) : Prop := wr_I I0 I ∧ I 65 24 = nI ys.length ∧ ∀ j, j < ys.length → I 79 j = ys.getD j 0
theorem wk_s {I0 I : aw_MI} {ys : List Int32} {v : Int32} (h : wk_P I0 I ys) : wk_P I0 (aw_up (aw_up I 79 ys.length v) 65 24 (nI (ys.length + 1))) (ys ++ [v]) := by
  refine ⟨fun a k h1 h2 => ?_, ?_, fun j hj => ?_⟩
  · rw [aw_up_ne _ _ (by omega), aw_up_ne I _ (by omega)]
    exact h.1 a k h1 h2
  · rw [aw_up_self, List.length_append]
    rfl
  · rw [List.length_append] at hj
    simp only [List.length_cons, List.length_nil] at hj
    rw [aw_up_off _ _ (by decide)]
    by_cases e : j = ys.length
    · rw [e, aw_up_self]
      simp
    · rw [aw_up_ne I _ (Or.inr e), h.2.2 j (by omega), List.getD_eq_getElem?_getD, List.getD_eq_getElem?_getD, List.getElem?_append_left (by omega)]
theorem wk_m {I0 I I' : aw_MI} {ys : List Int32} (h : wk_P I0 I ys) (g : mr_I I I') : wk_P I0 I' ys := ⟨h.1.tr (mr_wr g), by rw [g 65 24 (by decide) (by decide)]; exact h.2.1, fun j hj => by rw [g 79 j (by omega) (by omega)]; exact h.2.2 j hj⟩

theorem lX8_walks2 {G : aw_G} {d : Nat} {Ω : aw_O} {I : aw_MI} {J : aw_MJ} {Q : Int32 → aw_O → aw_MI → aw_MJ → Prop} {n m w : Nat} {v : Int32} {I0 : aw_MI} (hM : aw_model Ω 65) (hn : I 65 0 = nI n) (hn3 : n ≤ 3) (hm : I 65 4 = nI m) (hm6 : m ≤ 6) (hE1 : rx_E I0 I) (ht1 : I 65 3 = I0 65 3) (A1 : rx_At I0 n m w (I0 65 3) J) (hd : 3 ≤ d)  : ∀ (z l : Nat), l ≤ m → m - l < z → AW G MX8_walks (aw_nx Ω) d 0 0 (aw_QI Q) Ω I J 0 0 [.ref (aw_ad G 65), .int v, .int (nI (rw_f (rx_hb I0 n m (I0 65 3) w) l (m - l)))] 62 [] → AW G MX8_walks (aw_nx Ω) d 0 0 (aw_QI Q) Ω I J 0 0 [.ref (aw_ad G 65), .int v, .int (nI l)] 40 [] := by
  intro z
  induction z with
  | zero =>
    intro l h0 hz kk
    exact absurd hz (by omega)
  | succ z ih =>
    intro l h0 hz kk
    refine aw_iload_n dX8_walks_40 rfl ?_
    refine aw_aload_n dX8_walks_41 rfl ?_
    refine aw_getIv (v := nI m) dX8_walks_42 flX8_88 hM.o hm ?_
    refine aw_geN (t := 62) dX8_walks_45 (by decide) (by omega) (by omega) (fun h1 => ?_) (fun h1 => ?_)
    · skip
      rw [show m - l = 0 by omega] at kk
      exact kk
    · skip
      refine aw_aload_n dX8_walks_48 rfl ?_
      refine aw_iload_n dX8_walks_49 rfl ?_
      refine aw_cvI (As := [_]) (d' := d - 1) dX8_walks_50 lkX8_178 hM.o (by omega) rfl rfl (Nat.le_of_ble_eq_true rfl) ⟨Nat.le_refl _, Nat.le_refl _⟩ (tX8_holds hM hn hn3 (by omega) (by omega) ?_)
      rw [rp_slk_at hE1 ht1 A1, hE1.2.2]
      refine aw_if_eq (t := 62) dX8_walks_53 (by decide) (fun h2 => ?_) (fun h2 => ?_)
      · skip
        rw [show m - l = (m - l - 1) + 1 by omega, rw_f, if_neg (show ¬ rx_hb I0 n m (I0 65 3) w l = true from fun q => of_decide_eq_true q h2)] at kk
        exact kk
      · skip
        refine aw_iincN dX8_walks_56 rfl (by decide) ?_
        refine aw_lv (lv2 := [.ref _, .int _, .int _]) rfl ?_
        refine aw_goto (t := 40) dX8_walks_59 (by decide) ?_
        rw [show m - l = (m - l - 1) + 1 by omega, rw_f, if_pos (show rx_hb I0 n m (I0 65 3) w l = true from decide_eq_true h2)] at kk
        exact ih (l + 1) (by omega) (by omega) (by rw [show m - (l + 1) = m - l - 1 by omega]; exact kk)
/-- behind the inner loop -/

theorem lX8_walks3 {G : aw_G} {d : Nat} {Ω : aw_O} {I : aw_MI} {J : aw_MJ} {Q : Int32 → aw_O → aw_MI → aw_MJ → Prop} {n m w : Nat} {I0 : aw_MI} (hM : aw_model Ω 65) (hn1 : I 65 0 = nI n) (hn3 : n ≤ 3) (hm1 : I 65 4 = nI m) (hm6 : m ≤ 6) (hE1 : rx_E I0 I) (ht1 : I 65 3 = I0 65 3) (hw : w < 2 ^ m) (hd : 6 ≤ d) (hT : rw_lf I0 n m w = m → Q (nI 1) Ω I J) (kN : ∀ I' J', rw_lf I0 n m w < m → mr_I I I' → mr_J J J' → rw_nx I0 n m w = -1 → AW G MX8_walks (aw_nx Ω) d 0 0 (aw_QI Q) Ω I' J' 0 0 [.ref (aw_ad G 65), .int (-1), .null] 7 []) (kQ : ∀ w2 I' J', rw_lf I0 n m w < m → w2 < 2 ^ m → mr_I I I' → mr_J J J' → rx_gb I0 n m (nI (w ||| 2 ^ rw_lf I0 n m w)) (I0 65 3) w2 = true → rw_nx I0 n m w = nI w2 → AW G MX8_walks (aw_nx Ω) d 0 0 (aw_QI Q) Ω I' J' 0 0 [.ref (aw_ad G 65), .int (nI w2), .null] 7 []) : AW G MX8_walks (aw_nx Ω) d 0 0 (aw_QI Q) Ω I J 0 0 [.ref (aw_ad G 65), .int (nI w), .int (nI (rw_lf I0 n m w))] 62 [] := by
  have h64 : 2 ^ m ≤ 2 ^ 6 := Nat.pow_le_pow_right (by decide) hm6
  have hlm : rw_lf I0 n m w ≤ m := by have := (rw_f_le (rx_hb I0 n m (I0 65 3) w) m 0).2; unfold rw_lf; omega
  refine aw_iload_n dX8_walks_62 rfl ?_
  refine aw_aload_n dX8_walks_63 rfl ?_
  refine aw_getIv (v := nI m) dX8_walks_64 flX8_88 hM.o hm1 ?_
  refine aw_neN (t := 72) dX8_walks_67 (by decide) (by omega) (by omega) (fun h1 => ?_) (fun h1 => ?_)
  · skip
    have hl : rw_lf I0 n m w < m := by omega
    refine aw_aload_n dX8_walks_72 rfl ?_
    refine aw_iload_n dX8_walks_73 rfl ?_
    refine aw_iconst (v := nI 1) dX8_walks_74 (by decide) ?_
    refine aw_iload_n dX8_walks_75 rfl ?_
    refine aw_ishl dX8_walks_76 ?_
    refine aw_pc (pc2 := 77) rfl ?_
    refine aw_ior dX8_walks_77 ?_
    refine aw_toI (or_nI w (by omega) _ (by omega)) ?_
    refine aw_cvI (As := [_]) (d' := d - 1) dX8_walks_78 lkX8_190 hM.o (by omega) rfl rfl (Nat.le_of_ble_eq_true rfl) ⟨Nat.le_refl _, Nat.le_refl _⟩ (tX8_works hM hn1 hn3 hm1 hm6 (or_lt hw hl) (by omega) ?_ ?_)
    · skip
      intro I2 J2 a2 b2 f2
      rw [ht1, show rx_gb I n m (nI (w ||| 2 ^ rw_lf I0 n m w)) (I0 65 3) = rx_gb I0 n m (nI (w ||| 2 ^ rw_lf I0 n m w)) (I0 65 3) from funext fun w' => rx_find_c (S := w) hE1] at f2
      refine aw_istore_n dX8_walks_81 (by decide) ?_
      refine aw_lv (lv2 := [.ref _, .int _, .int _]) rfl ?_
      refine aw_goto (t := 7) dX8_walks_82 (by decide) ?_
      refine aw_frg 2 ?_
      exact kN I2 J2 hl a2 b2 f2
    · skip
      intro w2 I2 J2 hw2 a2 b2 g2 A2 f2
      rw [ht1, show rx_gb I n m (nI (w ||| 2 ^ rw_lf I0 n m w)) (I0 65 3) = rx_gb I0 n m (nI (w ||| 2 ^ rw_lf I0 n m w)) (I0 65 3) from funext fun w' => rx_find_c (S := w) hE1] at f2 g2
      refine aw_istore_n dX8_walks_81 (by decide) ?_
      refine aw_lv (lv2 := [.ref _, .int _, .int _]) rfl ?_
      refine aw_goto (t := 7) dX8_walks_82 (by decide) ?_
      refine aw_frg 2 ?_
      exact kQ w2 I2 J2 hl (Nat.lt_of_le_of_lt hw2 (or_lt hw hl)) a2 b2 g2 f2
  · skip
    refine aw_iconst (v := nI 1) dX8_walks_70 (by decide) ?_
    exact aw_zret dX8_walks_71 rfl (by decide) (hT h1) (Nat.zero_le _) (Nat.zero_le _)
theorem lX8_walks0 {G : aw_G} {d : Nat} {Ω : aw_O} {I : aw_MI} {J : aw_MJ} {Q : Int32 → aw_O → aw_MI → aw_MJ → Prop}  (hE : Q (nI 0) Ω I J) : AW G MX8_walks (aw_nx Ω) d 0 0 (aw_QI Q) Ω I J 0 0 [.ref (aw_ad G 65), .int (-1), .null] 7 [] := by
  refine aw_iload_n dX8_walks_7 rfl ?_
  refine aw_iconst (v := -1) dX8_walks_8 (by decide) ?_
  refine aw_icmp_eq (t := 85) dX8_walks_9 (by decide) (fun h1 => ?_) (fun h1 => absurd h1 (by decide))
  refine aw_iconst (v := nI 0) dX8_walks_85 (by decide) ?_
  exact aw_zret dX8_walks_86 rfl (by decide) (hE) (Nat.zero_le _) (Nat.zero_le _)
theorem lX8_walks1 {G : aw_G} {d : Nat} {Ω : aw_O} {Q : Int32 → aw_O → aw_MI → aw_MJ → Prop} {n m : Nat} {I0 : aw_MI} {J0 : aw_MJ} (hM : aw_model Ω 65) (hn : I0 65 0 = nI n) (hn3 : n ≤ 3) (hm : I0 65 4 = nI m) (hm6 : m ≤ 6) (hd : 6 ≤ d) : ∀ (z : Nat) (st : Int32) (I : aw_MI) (J : aw_MJ) (ys : List Int32), z + ys.length = 64 → rw_T (rw_lf I0 n m) (rw_nx I0 n m) m z st → (st = -1 ∨ ∃ w, st = nI w ∧ w < 2 ^ m ∧ rx_ok I0 n m w) → wk_P I0 I ys → mr_J J0 J → (∀ I' J', wr_I I0 I' → mr_J J0 J' → I' 65 24 = nI (ys ++ (rw_go (rw_lf I0 n m) (rw_nx I0 n m) m z st).1).length → (∀ j, j < (ys ++ (rw_go (rw_lf I0 n m) (rw_nx I0 n m) m z st).1).length → I' 79 j = (ys ++ (rw_go (rw_lf I0 n m) (rw_nx I0 n m) m z st).1).getD j 0) → Q (rw_go (rw_lf I0 n m) (rw_nx I0 n m) m z st).2 Ω I' J') → AW G MX8_walks (aw_nx Ω) d 0 0 (aw_QI Q) Ω I J 0 0 [.ref (aw_ad G 65), .int st, .null] 7 [] := by
  intro z
  induction z with
  | zero =>
    intro st I J ys h0 hT hst hP fJ hQ
    have e : st = -1 := hT
    subst e
    exact lX8_walks0 (hQ I J hP.1 fJ (by rw [rw_go, List.append_nil]; exact hP.2.1) (by rw [rw_go, List.append_nil]; exact hP.2.2))
  | succ z ih =>
    intro st I J ys h0 hT hst hP fJ hQ
    have h64 : 2 ^ m ≤ 2 ^ 6 := Nat.pow_le_pow_right (by decide) hm6
    rcases hst with rfl | ⟨w, rfl, hw, hok⟩
    · exact lX8_walks0 (by rw [rw_go, if_pos rfl] at hQ; exact hQ I J hP.1 fJ (by rw [List.append_nil]; exact hP.2.1) (by rw [List.append_nil]; exact hP.2.2))
    · have hne : ¬ nI w = -1 := fun q => absurd (show (0 : Int32) ≤ -1 from q ▸ nI_pos' (by omega)) (by decide)
      have hcl : (nI w).toNatClampNeg = w := nI_clamp (by omega)
      have hTz : (rw_lf I0 n m) w = m ∨ rw_T (rw_lf I0 n m) (rw_nx I0 n m) m z ((rw_nx I0 n m) w) := by
        have q := hT.resolve_left hne
        rw [hcl] at q
        exact q
      refine aw_iload_n dX8_walks_7 rfl ?_
      refine aw_iconst (v := -1) dX8_walks_8 (by decide) ?_
      refine aw_icmp_eq (t := 85) dX8_walks_9 (by decide) (fun h1 => ?_) (fun h1 => ?_)
      · skip
        exact absurd h1 hne
      · skip
        refine aw_aload_n dX8_walks_12 rfl ?_
        refine aw_getR dX8_walks_13 flX8_54 hM.o hM.p23 ?_
        refine aw_aload_n dX8_walks_16 rfl ?_
        refine aw_getIv (v := nI ys.length) dX8_walks_17 flX8_214 hM.o (by first | exact hP.2.1 | (simp (disch := omega) only [aw_cp_off, aw_up_off, aw_wr_off, aw_fill_off, aw_fr_off]; exact hP.2.1)) ?_
        refine aw_iload_n dX8_walks_20 rfl ?_
        refine aw_pc (pc2 := 21) rfl ?_
        refine aw_iast dX8_walks_21 hM.s23 rfl (by omega) rfl ?_
        refine aw_aload_n dX8_walks_22 rfl ?_
        refine aw_dup dX8_walks_23 rfl ?_
        refine aw_getIv (v := nI ys.length) dX8_walks_24 flX8_214 hM.o (by first | exact hP.2.1 | (simp (disch := omega) only [aw_cp_off, aw_up_off, aw_wr_off, aw_fill_off, aw_fr_off]; exact hP.2.1)) ?_
        refine aw_iconst (v := nI 1) dX8_walks_27 (by decide) ?_
        refine aw_iaddN dX8_walks_28 ?_
        refine aw_pc (pc2 := 29) rfl ?_
        refine aw_putI dX8_walks_29 fwX8_214 hM.o rfl ?_
        have p2 : wk_P I0 (aw_up (aw_up I 79 ys.length (nI w)) 65 24 (nI (ys.length + 1))) (ys ++ [nI w]) := wk_s hP
        have hn2 : (aw_up (aw_up I 79 ys.length (nI w)) 65 24 (nI (ys.length + 1))) 65 0 = nI n := by rw [p2.1 65 0 (by decide) (by decide)]; exact hn
        have hm2 : (aw_up (aw_up I 79 ys.length (nI w)) 65 24 (nI (ys.length + 1))) 65 4 = nI m := by rw [p2.1 65 4 (by decide) (by decide)]; exact hm
        refine aw_aload_n dX8_walks_32 rfl ?_
        refine aw_iload_n dX8_walks_33 rfl ?_
        refine aw_cvI (As := [_]) (d' := d - 1) dX8_walks_34 lkX8_181 hM.o (by omega) rfl rfl (Nat.le_of_ble_eq_true rfl) ⟨Nat.le_refl _, Nat.le_refl _⟩ (tX8_finds (I := (aw_up (aw_up I 79 ys.length (nI w)) 65 24 (nI (ys.length + 1)))) (S := w) hM hn2 hn3 hm2 hm6 (by omega) (by omega) ?_ ?_)
        · skip
          intro I1 J1 a1 b1 k1
          exact absurd hok (by rw [rx_ok_c p2.1.E] at k1; exact k1)
        · skip
          intro I1 J1 a1 b1 k1 A1
          have p3 := wk_m p2 a1
          have hE1 := p3.1.E
          have ht1 : I1 65 3 = I0 65 3 := p3.1 65 3 (by decide) (by decide)
          rw [rx_At_c p2.1.E, p2.1 65 3 (by decide) (by decide)] at A1
          have hn1 : I1 65 0 = nI n := by rw [p3.1 65 0 (by decide) (by decide)]; exact hn
          have hm1 : I1 65 4 = nI m := by rw [p3.1 65 4 (by decide) (by decide)]; exact hm
          have fJ1 := fJ.tr b1
          refine aw_pop dX8_walks_37 rfl ?_
          refine aw_iconst (v := nI 0) dX8_walks_38 (by decide) ?_
          refine aw_istore_n dX8_walks_39 (by decide) ?_
          refine aw_lv (lv2 := [.ref _, .int _, .int _]) rfl ?_
          refine lX8_walks2 (I0 := I0) (w := w) hM hn1 hn3 hm1 hm6 hE1 ht1 A1 (by omega) (m + 1) 0 (by omega) (by omega) ?_
          refine lX8_walks3 (I0 := I0) (w := w) hM hn1 hn3 hm1 hm6 hE1 ht1 hw hd (fun e => ?_) (fun I2 J2 hl a2 b2 f2 => ?_) (fun w2 I2 J2 hl hw2 a2 b2 g2 f2 => ?_)
          · rw [rw_go, if_neg hne, hcl, if_pos e] at hQ
            exact hQ I1 J1 p3.1 fJ1 p3.2.1 p3.2.2
          · have hlm : ¬ rw_lf I0 n m w = m := by omega
            rw [rw_go, if_neg hne, hcl, if_neg hlm, f2] at hQ
            refine ih (-1) I2 J2 (ys ++ [nI w]) (by rw [List.length_append]; simp only [List.length_cons, List.length_nil]; omega) ?_ (Or.inl rfl) (wk_m p3 a2) (fJ1.tr b2) ?_
            · rw [← f2]
              exact hTz.resolve_left hlm
            · rw [List.append_assoc]
              exact hQ
          · have hlm : ¬ rw_lf I0 n m w = m := by omega
            rw [rw_go, if_neg hne, hcl, if_neg hlm, f2] at hQ
            refine ih (nI w2) I2 J2 (ys ++ [nI w]) (by rw [List.length_append]; simp only [List.length_cons, List.length_nil]; omega) ?_ (Or.inr ⟨w2, rfl, hw2, ?_⟩) (wk_m p3 a2) (fJ1.tr b2) ?_
            · rw [← f2]
              exact hTz.resolve_left hlm
            · simp only [rx_gb, Bool.and_eq_true, decide_eq_true_eq] at g2
              exact ⟨g2.1, g2.2.1⟩
            · rw [List.append_assoc]
              exact hQ
theorem tX8_walks {G : aw_G} {d : Nat} {Ω : aw_O} {I : aw_MI} {J : aw_MJ} {Q : Int32 → aw_O → aw_MI → aw_MJ → Prop} {n m : Nat} (hM : aw_model Ω 65) (hn : I 65 0 = nI n) (hn3 : n ≤ 3) (hm : I 65 4 = nI m) (hm6 : m ≤ 6) (hd : 6 ≤ d) (hT : rw_T (rw_lf I n m) (rw_nx I n m) m 64 (nI 0)) (hok : rx_ok I n m 0) (hQ : (∀ I' J', wr_I I I' → mr_J J J' → I' 65 24 = nI (rw_go (rw_lf I n m) (rw_nx I n m) m 64 (nI 0)).1.length → (∀ j, j < (rw_go (rw_lf I n m) (rw_nx I n m) m 64 (nI 0)).1.length → I' 79 j = (rw_go (rw_lf I n m) (rw_nx I n m) m 64 (nI 0)).1.getD j 0) → Q (rw_go (rw_lf I n m) (rw_nx I n m) m 64 (nI 0)).2 Ω I' J')) : aw_Call G MX8_walks d 0 0 [.ref (aw_ad G 65)] Ω I J (aw_QI Q) := by
  refine aw_enter (by decide +kernel) rfl (Nat.le_of_ble_eq_true rfl) ?_
  show AW G MX8_walks (aw_nx Ω) d 0 0 (aw_QI Q) Ω I J 0 0 [.ref (aw_ad G 65), .null, .null] 0 []
  refine aw_iconst (v := nI 0) dX8_walks_0 (by decide) ?_
  refine aw_istore_n dX8_walks_1 (by decide) ?_
  refine aw_lv (lv2 := [.ref _, .int _, .null]) rfl ?_
  refine aw_aload_n dX8_walks_2 rfl ?_
  refine aw_iconst (v := nI 0) dX8_walks_3 (by decide) ?_
  refine aw_putI dX8_walks_4 fwX8_214 hM.o rfl ?_
  exact lX8_walks1 (I0 := I) (J0 := J) hM hn hn3 hm hm6 hd 64 (nI 0) _ _ [] rfl hT (Or.inr ⟨0, rfl, Nat.pos_of_ne_zero (by simp), hok⟩) ⟨fun a k h1 _ => aw_up_ne I _ (by omega), aw_up_self _ _ _ _, fun j hj => absurd hj (by simp)⟩ mr_J.rf hQ

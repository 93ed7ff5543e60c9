/-! THE SOLVER: the walk -/
theorem sp_or_c {f g : Nat → Bool} : ∀ {m : Nat}, (∀ l, l < m → f l = g l) → sp_or f m = sp_or g m
  | 0, _ => rfl
  | m + 1, h => by
    unfold sp_or
    rw [sp_or_c (fun l hl => h l (by omega)), h m (by omega)]
def cw_h (I : aw_MI) (c n m : Nat) (t : Int32) (w : Nat) : Int32 := sp_or (fun l => decide (¬ sp_held (I (c + 3) l) (cx_sl I c n m w t l) = 0)) m
def cw_lo (I : aw_MI) (c n m : Nat) (t : Int32) (w : Nat) : Int32 := sp_all m &&& (cw_h I c n m t w ^^^ (-1))
def cw_S (I : aw_MI) (c n m : Nat) (t : Int32) (w : Nat) : Nat := (nI w ||| (cw_lo I c n m t w &&& -cw_lo I c n m t w)).toNatClampNeg
def cw_nx (I : aw_MI) (c n m : Nat) (t : Int32) (w : Nat) : Int32 := cx_find (cx_gb I c n m (nI (cw_S I c n m t w)) t) (nI (cw_S I c n m t w)) (cw_S I c n m t w + 1) 0
/-- the walk's sets, and whether it comes to an answer -/
def cw_go (lo nx : Nat → Int32) : Nat → Int32 → List Int32 × Int32
  | 0, _ => ([], nI 0)
  | z + 1, st => if st < 0 then ([], nI 0) else if lo st.toNatClampNeg = 0 then ([st], nI 1) else (st :: (cw_go lo nx z (nx st.toNatClampNeg)).1, (cw_go lo nx z (nx st.toNatClampNeg)).2)
theorem cw_bits : ∀ m, m < 7 → ∀ h, h < 2 ^ m → ∃ L, L < 2 ^ m ∧ sp_all m &&& (nI h ^^^ (-1)) = nI L := by decide +kernel
theorem cw_low : ∀ L, L < 64 → nI L &&& -nI L = nI (L &&& (64 - L)) := by decide +kernel
theorem cw_or2 : ∀ w, w < 64 → ∀ b, b < 64 → nI w ||| nI b = nI (w ||| b) := by decide +kernel
theorem cw_or (m : Nat) (hm : m < 7) (w : Nat) (hw : w < 2 ^ m) (L : Nat) (hL : L < 2 ^ m) : ∃ S, S < 2 ^ m ∧ nI w ||| (nI L &&& -nI L) = nI S := by
  have h64 : 2 ^ m ≤ 2 ^ 6 := Nat.pow_le_pow_right (by decide) (by omega)
  have hb : L &&& (64 - L) < 2 ^ m := Nat.lt_of_le_of_lt Nat.and_le_left hL
  exact ⟨w ||| (L &&& (64 - L)), Nat.or_lt_two_pow hw hb, by rw [cw_low L (by omega), cw_or2 w (by omega) _ (by omega)]⟩
theorem cw_p2 {I : aw_MI} {s k j : Nat} {v u : Int32} {pf : Nat → Int32} (hp : ∀ j, j < k → I (s + 7) j = pf j) (hj : j < k + 1) : aw_up (aw_up I (s + 7) k v) s 4 u (s + 7) j = (if j = k then v else pf j) := by
  rw [aw_up_off _ _ (by omega)]
  by_cases e : j = k
  · rw [if_pos e, e, aw_up_self]
  · rw [if_neg e, aw_up_ne _ _ (Or.inr e)]
    exact hp j (by omega)
theorem cw_one {f : Nat → Int32} {k : Nat} {v : Int32} (h : f k = v) : ∀ j, j < [v].length → f (k + j) = [v].getD j 0 := by
  intro j hj
  have e0 : j = 0 := by
    simp only [List.length_cons, List.length_nil] at hj
    omega
  subst e0
  rw [Nat.add_zero, h]
  rfl
theorem cw_bit1 : ∀ m, m < 6 → ∀ h, h < 2 ^ m → nI h ||| nI 1 <<< (nI m &&& 31) = nI (h + 2 ^ m) := by decide +kernel
theorem cw_bit0 : ∀ h, h < 64 → nI h ||| nI 0 = nI h := by decide +kernel
theorem cw_hb (f : Nat → Bool) : ∀ m, m < 7 → ∃ h, h < 2 ^ m ∧ sp_or f m = nI h
  | 0, _ => ⟨0, by decide, rfl⟩
  | m + 1, hm => by
    obtain ⟨h, h1, h2⟩ := cw_hb f m (by omega)
    have h64 : 2 ^ m ≤ 2 ^ 5 := Nat.pow_le_pow_right (by decide) (by omega)
    have hp : 2 ^ (m + 1) = 2 ^ m + 2 ^ m := by rw [Nat.pow_succ]; omega
    by_cases e : f m = true
    · exact ⟨h + 2 ^ m, by omega, by
        show sp_or f m ||| _ = _
        rw [if_pos e, h2]
        exact cw_bit1 m (by omega) h h1⟩
    · exact ⟨h, by omega, by
        show sp_or f m ||| _ = _
        rw [if_neg e, h2]
        exact cw_bit0 h (by omega)⟩
theorem cw_S_ok {I : aw_MI} {c n m w : Nat} {t : Int32} (hm : m ≤ 6) (hw : w < 2 ^ m) : cw_S I c n m t w < 2 ^ m ∧ nI w ||| (cw_lo I c n m t w &&& -cw_lo I c n m t w) = nI (cw_S I c n m t w) := by
  obtain ⟨h, h1, h2⟩ := cw_hb (fun l => decide (¬ sp_held (I (c + 3) l) (cx_sl I c n m w t l) = 0)) m (by omega)
  obtain ⟨L, l1, l2⟩ := cw_bits m (by omega) h h1
  obtain ⟨S, s1, s2⟩ := cw_or m (by omega) w hw L l1
  have e : cw_lo I c n m t w = nI L := by
    show sp_all m &&& (cw_h I c n m t w ^^^ (-1)) = _
    rw [show cw_h I c n m t w = nI h from h2]
    exact l2
  have h64 : 2 ^ m ≤ 2 ^ 6 := Nat.pow_le_pow_right (by decide) hm
  have e2 : cw_S I c n m t w = S := by
    unfold cw_S
    rw [e, s2]
    exact nI_clamp (by omega)
  rw [e2, e]
  exact ⟨s1, s2⟩
theorem cw_held {I0 I : aw_MI} {J : aw_MJ} {c n m w s : Nat} {t : Int32} (h : ∀ a, a < s → I a = I0 a) (hc : c + 6 < s) (ht : I s 10 = t) (hA : cx_At I0 c n m w t s J) : sp_or (sp_hbt I J c (s + 1) n (I s 10)) m = cw_h I0 c n m t w := by
  unfold cw_h
  refine sp_or_c (fun l _ => ?_)
  unfold sp_hbt
  rw [cx_slk h hc ht hA, h (c + 3) (by omega)]

theorem cx_At_c {s0 s c n m w : Nat} {t : Int32} {I I' : aw_MI} {J : aw_MJ} (h : ∀ a, a < s0 → I' a = I a) (hc : c + 6 < s0) (hA : cx_At I' c n m w t s J) : cx_At I c n m w t s J := by
  have e1 : cx_v I' c n m w t = cx_v I c n m w t := by simp only [cx_v, cx_S_c h hc]
  have e2 : cx_u I' c n m w = cx_u I c n m w := by simp only [cx_u, cx_S_c h hc]
  have e3 : cx_y I' c n m w t = cx_y I c n m w t := by funext l; simp only [cx_y, e1]
  have e4 : cx_z I' c n m w = cx_z I c n m w := by funext l; simp only [cx_z, e2]
  unfold cx_At at hA ⊢
  rw [e1, e2, e3, e4, cx_b_c h hc] at hA
  exact hA
theorem cw_len {α : Type} {k : Nat} {x : α} {L : List α} : k + 1 + L.length = k + (x :: L).length := by
  simp only [List.length_cons]
  omega
theorem lX6_goPath {G : aw_G} {d : Nat} {Ω : aw_O}  {Q : Int32 → aw_O → aw_MI → aw_MJ → Prop} {s c n m : Nat} {t : Int32} {I0 : aw_MI} {J0 : aw_MJ} (hS : aw_solver Ω s c) (hn : I0 c 0 = nI n) (hn3 : n ≤ 3) (hm : I0 c 2 = nI m) (hm6 : m ≤ 6) (ht : I0 c 1 = t) (hcs : c + 6 < s) (hd : 5 ≤ d)  : ∀ (z k : Nat) (st : Int32) (pf : Nat → Int32) (I : aw_MI) (J : aw_MJ), z + k = 64 → (∀ a, a < s ∨ s + 17 ≤ a → I a = I0 a) → sv_J s J0 J → I s 4 = nI k → (∀ j, j < k → I (s + 7) j = pf j) → (st = -1 ∨ ∃ w, st = nI w ∧ w < 2 ^ m ∧ I s 10 = t ∧ cx_At I0 c n m w t s J) → (∀ I' J', (∀ a, a < s ∨ s + 17 ≤ a → I' a = I0 a) → sv_J s J0 J' → I' s 4 = nI (k + (cw_go (cw_lo I0 c n m t) (cw_nx I0 c n m t) z st).1.length) → (∀ j, j < k → I' (s + 7) j = pf j) → (∀ j, j < (cw_go (cw_lo I0 c n m t) (cw_nx I0 c n m t) z st).1.length → I' (s + 7) (k + j) = (cw_go (cw_lo I0 c n m t) (cw_nx I0 c n m t) z st).1.getD j 0) → Q (cw_go (cw_lo I0 c n m t) (cw_nx I0 c n m t) z st).2 Ω I' J') → AW G MX6_goPath (aw_nx Ω) d 0 0 (aw_QI Q) Ω I J 0 0 [.ref (aw_ad G s), .int st, .int (nI k), .null] 20 [] := by
  intro z
  induction z with
  | zero =>
    intro k st pf I J h0 fI fJ h4 hp hst hQ
    refine aw_iload_n dX6_goPath_20 rfl ?_
    refine aw_bipush (v := nI 64) dX6_goPath_21 (by decide) ?_
    refine aw_geN (t := 89) dX6_goPath_23 (by decide) (by omega) (by omega) (fun h1 => ?_) (fun h1 => absurd h1 (by omega))
    refine aw_iconst (v := nI 0) dX6_goPath_89 (by decide) ?_
    exact aw_zret dX6_goPath_90 rfl (by decide) (hQ I J fI fJ (by rw [h4]; rfl) hp (fun j hj => absurd hj (Nat.not_lt_zero j))) (Nat.zero_le _) (Nat.zero_le _)
  | succ z ih =>
    intro k st pf I J h0 fI fJ h4 hp hst hQ
    have h64 : 2 ^ m ≤ 2 ^ 6 := Nat.pow_le_pow_right (by decide) hm6
    refine aw_iload_n dX6_goPath_20 rfl ?_
    refine aw_bipush (v := nI 64) dX6_goPath_21 (by decide) ?_
    refine aw_geN (t := 89) dX6_goPath_23 (by decide) (by omega) (by omega) (fun h1 => ?_) (fun h1 => ?_)
    · skip
      refine aw_iconst (v := nI 0) dX6_goPath_89 (by decide) ?_
      exact aw_zret dX6_goPath_90 rfl (by decide) (absurd h1 (by omega)) (Nat.zero_le _) (Nat.zero_le _)
    · skip
      refine aw_iload_n dX6_goPath_26 rfl ?_
      refine aw_if_lt (t := 89) dX6_goPath_27 (by decide) (fun h2 => ?_) (fun h2 => ?_)
      · skip
        refine aw_iconst (v := nI 0) dX6_goPath_89 (by decide) ?_
        have eg : cw_go (cw_lo I0 c n m t) (cw_nx I0 c n m t) (z + 1) st = ([], nI 0) := by rw [cw_go, if_pos h2]
        rw [eg] at hQ
        exact aw_zret dX6_goPath_90 rfl (by decide) (hQ I J fI fJ (by rw [h4]; rfl) hp (fun j hj => absurd hj (Nat.not_lt_zero j))) (Nat.zero_le _) (Nat.zero_le _)
      · skip
        rcases hst with rfl | ⟨w, rfl, hw, ht1, hA⟩
        · exact absurd (by decide) h2
        have hwc : (nI w).toNatClampNeg = w := nI_clamp (by omega)
        refine aw_aload_n dX6_goPath_30 rfl ?_
        refine aw_getR dX6_goPath_31 flX6_21 hS.o hS.p3 ?_
        refine aw_iload_n dX6_goPath_34 rfl ?_
        refine aw_iload_n dX6_goPath_35 rfl ?_
        refine aw_iast dX6_goPath_36 hS.s3 rfl (by omega) rfl ?_
        refine aw_pc (pc2 := 37) rfl ?_
        refine aw_aload_n dX6_goPath_37 rfl ?_
        refine aw_iload_n dX6_goPath_38 rfl ?_
        refine aw_iconst (v := nI 1) dX6_goPath_39 (by decide) ?_
        refine aw_iaddN dX6_goPath_40 ?_
        refine aw_putI dX6_goPath_41 fwX6_142 hS.o rfl ?_
        have lo2 : ∀ a, a < s ∨ s + 17 ≤ a → aw_up (aw_up I (s + 7) k (nI w)) s 4 (nI (k + 1)) a = I0 a := fun a ha => by rw [aw_up_off _ _ (by omega), aw_up_off _ _ (by omega)]; exact fI a ha
        have ht2 : aw_up (aw_up I (s + 7) k (nI w)) s 4 (nI (k + 1)) s 10 = t := by rw [aw_up_ne _ _ (Or.inr (by decide)), aw_up_off _ _ (by omega)]; exact ht1
        obtain ⟨sS, eS⟩ := cw_S_ok (I := I0) (c := c) (n := n) (t := t) hm6 hw
        have p2 : ∀ j, j < k + 1 → aw_up (aw_up I (s + 7) k (nI w)) s 4 (nI (k + 1)) (s + 7) j = (if j = k then nI w else pf j) := fun j hj => cw_p2 hp hj
        refine aw_aload_n dX6_goPath_44 rfl ?_
        refine aw_pc (pc2 := 45) rfl ?_
        refine aw_getR dX6_goPath_45 flX6_36 hS.o hS.p0 ?_
        refine aw_cvI (As := []) (d' := d - 1) dX6_goPath_48 lkX6_145 hS.q0.o (by omega) rfl rfl (Nat.le_of_ble_eq_true rfl) ⟨Nat.le_refl _, Nat.le_refl _⟩ (tX1_allLines hS.q0 (by rw [lo2 c (by omega)]; exact hm) ?_)
        refine aw_aload_n dX6_goPath_51 rfl ?_
        refine aw_cvI (As := []) (d' := d - 1) dX6_goPath_52 lkX6_149 hS.o (by omega) rfl rfl (Nat.le_of_ble_eq_true rfl) ⟨Nat.le_refl _, Nat.le_refl _⟩ (tX6_heldLines hS (by rw [lo2 c (by omega)]; exact hn) hn3 (by rw [lo2 c (by omega)]; exact hm) hm6 (by omega) ?_)
        refine aw_toI (cw_held (fun a ha => lo2 a (Or.inl ha)) hcs ht2 hA) ?_
        refine aw_iconst (v := -1) dX6_goPath_55 (by decide) ?_
        refine aw_ixor dX6_goPath_56 ?_
        refine aw_pc (pc2 := 57) rfl ?_
        refine aw_iand dX6_goPath_57 ?_
        refine aw_istore_n dX6_goPath_58 (by decide) ?_
        refine aw_lv (lv2 := [.ref _, .int _, .int _, .int _]) rfl ?_
        refine aw_iload_n dX6_goPath_59 rfl ?_
        refine aw_if_ne (t := 65) dX6_goPath_60 (by decide) (fun h3 => ?_) (fun h3 => ?_)
        · skip
          refine aw_aload_n dX6_goPath_65 rfl ?_
          refine aw_iload_n dX6_goPath_66 rfl ?_
          refine aw_iload_n dX6_goPath_67 rfl ?_
          refine aw_iload_n dX6_goPath_68 rfl ?_
          refine aw_ineg dX6_goPath_69 ?_
          refine aw_pc (pc2 := 70) rfl ?_
          refine aw_iand dX6_goPath_70 ?_
          refine aw_ior dX6_goPath_71 ?_
          refine aw_toI eS ?_
          refine aw_aload_n dX6_goPath_72 rfl ?_
          refine aw_getR dX6_goPath_73 flX6_36 hS.o hS.p0 ?_
          refine aw_getIv (v := t) dX6_goPath_76 flX6_138 hS.q0.o (by rw [lo2 c (by omega)]; exact ht) ?_
          refine aw_cvI (As := [_, _]) (d' := d - 1) dX6_goPath_79 lkX6_139 hS.o (by omega) rfl rfl (Nat.le_of_ble_eq_true rfl) ⟨Nat.le_refl _, Nat.le_refl _⟩ (tX6_find hS (by rw [lo2 c (by omega)]; exact hn) hn3 (by rw [lo2 c (by omega)]; exact hm) hm6 hcs sS (by omega) ?_ ?_)
          · skip
            intro I3 J3 a3 b3 f3
            simp only [ct_gbc (fun a ha => lo2 a (Or.inl ha)) hcs] at f3
            have hnx : cw_nx I0 c n m t w = -1 := f3
            have hst3 : (-1 : Int32) = -1 ∨ ∃ w, (-1 : Int32) = nI w ∧ w < 2 ^ m ∧ I3 s 10 = t ∧ cx_At I0 c n m w t s J3 := Or.inl rfl
            refine aw_istore_n dX6_goPath_82 (by decide) ?_
            refine aw_lv (lv2 := [.ref _, .int _, .int _, .int _]) rfl ?_
            refine aw_iincN dX6_goPath_83 rfl (by decide) ?_
            refine aw_lv (lv2 := [.ref _, .int _, .int _, .int _]) rfl ?_
            refine aw_goto (t := 20) dX6_goPath_86 (by decide) ?_
            refine aw_frg 3 ?_
            have eg : cw_go (cw_lo I0 c n m t) (cw_nx I0 c n m t) (z + 1) (nI w) = (nI w :: (cw_go (cw_lo I0 c n m t) (cw_nx I0 c n m t) z (-1)).1, (cw_go (cw_lo I0 c n m t) (cw_nx I0 c n m t) z (-1)).2) := by rw [cw_go, if_neg h2, hwc, if_neg (show ¬ cw_lo I0 c n m t w = 0 from h3), hnx]
            rw [eg] at hQ
            refine ih (k + 1) (-1) (fun j => if j = k then nI w else pf j) I3 J3 (by omega) (fun a ha => (a3.1 a ha).trans (lo2 a ha)) (fJ.tr b3) (by rw [a3.2.2.2, aw_up_self]) (fun j hj => by rw [a3.2.1]; exact p2 j hj) hst3 (fun I9 J9 l9 j9 n9 q9 r9 => hQ I9 J9 l9 j9 (by rw [n9, cw_len]) (fun j hj => by rw [q9 j (by omega), if_neg (by omega)]) (fun j hj => ?_))
            cases j with
            | zero => show I9 (s + 7) k = nI w; rw [q9 k (by omega), if_pos rfl]
            | succ j => rw [show k + (j + 1) = k + 1 + j by omega, r9 j (by simp only [List.length_cons] at hj; omega)]; rfl
          · skip
            intro w3 I3 J3 hw3 a3 b3 g3 t3 A3 f3
            simp only [ct_gbc (fun a ha => lo2 a (Or.inl ha)) hcs] at f3
            have hnx : cw_nx I0 c n m t w = nI w3 := f3
            have hst3 : nI w3 = -1 ∨ ∃ w, nI w3 = nI w ∧ w < 2 ^ m ∧ I3 s 10 = t ∧ cx_At I0 c n m w t s J3 := Or.inr ⟨w3, rfl, by omega, t3, cx_At_c (fun a ha => lo2 a (Or.inl ha)) hcs A3⟩
            refine aw_istore_n dX6_goPath_82 (by decide) ?_
            refine aw_lv (lv2 := [.ref _, .int _, .int _, .int _]) rfl ?_
            refine aw_iincN dX6_goPath_83 rfl (by decide) ?_
            refine aw_lv (lv2 := [.ref _, .int _, .int _, .int _]) rfl ?_
            refine aw_goto (t := 20) dX6_goPath_86 (by decide) ?_
            refine aw_frg 3 ?_
            have eg : cw_go (cw_lo I0 c n m t) (cw_nx I0 c n m t) (z + 1) (nI w) = (nI w :: (cw_go (cw_lo I0 c n m t) (cw_nx I0 c n m t) z (nI w3)).1, (cw_go (cw_lo I0 c n m t) (cw_nx I0 c n m t) z (nI w3)).2) := by rw [cw_go, if_neg h2, hwc, if_neg (show ¬ cw_lo I0 c n m t w = 0 from h3), hnx]
            rw [eg] at hQ
            refine ih (k + 1) (nI w3) (fun j => if j = k then nI w else pf j) I3 J3 (by omega) (fun a ha => (a3.1 a ha).trans (lo2 a ha)) (fJ.tr b3) (by rw [a3.2.2.2, aw_up_self]) (fun j hj => by rw [a3.2.1]; exact p2 j hj) hst3 (fun I9 J9 l9 j9 n9 q9 r9 => hQ I9 J9 l9 j9 (by rw [n9, cw_len]) (fun j hj => by rw [q9 j (by omega), if_neg (by omega)]) (fun j hj => ?_))
            cases j with
            | zero => show I9 (s + 7) k = nI w; rw [q9 k (by omega), if_pos rfl]
            | succ j => rw [show k + (j + 1) = k + 1 + j by omega, r9 j (by simp only [List.length_cons] at hj; omega)]; rfl
        · skip
          refine aw_iconst (v := nI 1) dX6_goPath_63 (by decide) ?_
          have eg : cw_go (cw_lo I0 c n m t) (cw_nx I0 c n m t) (z + 1) (nI w) = ([nI w], nI 1) := by rw [cw_go, if_neg h2, hwc, if_pos (show cw_lo I0 c n m t w = 0 from h3)]
          rw [eg] at hQ
          exact aw_zret dX6_goPath_64 rfl (by decide) (hQ _ J lo2 fJ (by rw [aw_up_self]; rfl) (fun j hj => by rw [p2 j (by omega), if_neg (by omega)]) (cw_one (by rw [p2 k (by omega), if_pos rfl]))) (Nat.zero_le _) (Nat.zero_le _)
theorem tX6_goPath {G : aw_G} {d : Nat} {Ω : aw_O} {I : aw_MI} {J : aw_MJ} {Q : Int32 → aw_O → aw_MI → aw_MJ → Prop} {s c n m : Nat} {t : Int32} (hS : aw_solver Ω s c) (hn : I c 0 = nI n) (hn3 : n ≤ 3) (hm : I c 2 = nI m) (hm6 : m ≤ 6) (ht : I c 1 = t) (hcs : c + 6 < s) (hd : 5 ≤ d) (hQ : ∀ I' J', (∀ a, a < s ∨ s + 17 ≤ a → I' a = I a) → sv_J s J J' → I' s 4 = nI (cw_go (cw_lo I c n m t) (cw_nx I c n m t) 64 (cx_find (cx_gb I c n m (nI 0) t) (nI 0) 1 0)).1.length → (∀ j, j < (cw_go (cw_lo I c n m t) (cw_nx I c n m t) 64 (cx_find (cx_gb I c n m (nI 0) t) (nI 0) 1 0)).1.length → I' (s + 7) j = (cw_go (cw_lo I c n m t) (cw_nx I c n m t) 64 (cx_find (cx_gb I c n m (nI 0) t) (nI 0) 1 0)).1.getD j 0) → Q (cw_go (cw_lo I c n m t) (cw_nx I c n m t) 64 (cx_find (cx_gb I c n m (nI 0) t) (nI 0) 1 0)).2 Ω I' J') : aw_Call G MX6_goPath d 0 0 [.ref (aw_ad G s)] Ω I J (aw_QI Q) := by
  refine aw_enter (by decide +kernel) rfl (Nat.le_of_ble_eq_true rfl) ?_
  show AW G MX6_goPath (aw_nx Ω) d 0 0 (aw_QI Q) Ω I J 0 0 [.ref (aw_ad G s), .null, .null, .null] 0 []
  refine aw_aload_n dX6_goPath_0 rfl ?_
  refine aw_iconst (v := nI 0) dX6_goPath_1 (by decide) ?_
  refine aw_aload_n dX6_goPath_2 rfl ?_
  refine aw_getR dX6_goPath_3 flX6_36 hS.o hS.p0 ?_
  refine aw_getIv (v := t) dX6_goPath_6 flX6_138 hS.q0.o ht ?_
  refine aw_pc (pc2 := 9) rfl ?_
  refine aw_cvI (As := [_, _]) (d' := d - 1) dX6_goPath_9 lkX6_139 hS.o (by omega) rfl rfl (Nat.le_of_ble_eq_true rfl) ⟨Nat.le_refl _, Nat.le_refl _⟩ (tX6_find (S := 0) hS hn hn3 hm hm6 hcs (Nat.pos_of_ne_zero (by simp)) (by omega) ?_ ?_)
  · skip
    intro I3 J3 a3 b3 f3
    rw [f3] at hQ
    have hst3 : (-1 : Int32) = -1 ∨ ∃ w, (-1 : Int32) = nI w ∧ w < 2 ^ m ∧ aw_up I3 s 4 (nI 0) s 10 = t ∧ cx_At I c n m w t s J3 := Or.inl rfl
    refine aw_istore_n dX6_goPath_12 (by decide) ?_
    refine aw_lv (lv2 := [.ref _, .int _, .null, .null]) rfl ?_
    refine aw_aload_n dX6_goPath_13 rfl ?_
    refine aw_iconst (v := nI 0) dX6_goPath_14 (by decide) ?_
    refine aw_putI dX6_goPath_15 fwX6_142 hS.o rfl ?_
    refine aw_iconst (v := nI 0) dX6_goPath_18 (by decide) ?_
    refine aw_pc (pc2 := 19) rfl ?_
    refine aw_istore_n dX6_goPath_19 (by decide) ?_
    refine aw_lv (lv2 := [.ref _, .int _, .int _, .null]) rfl ?_
    exact lX6_goPath (I0 := I) (J0 := J) hS hn hn3 hm hm6 ht hcs hd 64 0 _ (fun _ => 0) _ J3 (by omega) (fun a ha => by rw [aw_up_off _ _ (by omega)]; exact a3.1 a ha) b3 (aw_up_self _ _ _ _) (fun j hj => absurd hj (Nat.not_lt_zero j)) hst3 (fun I9 J9 l9 j9 n9 _ r9 => hQ I9 J9 l9 j9 (by rw [n9, Nat.zero_add]) (fun j hj => by have q := r9 j hj; rw [Nat.zero_add] at q; exact q))
  · skip
    intro w3 I3 J3 hw3 a3 b3 g3 t3 A3 f3
    rw [f3] at hQ
    have hst3 : nI w3 = -1 ∨ ∃ w, nI w3 = nI w ∧ w < 2 ^ m ∧ aw_up I3 s 4 (nI 0) s 10 = t ∧ cx_At I c n m w t s J3 := Or.inr ⟨w3, rfl, Nat.lt_of_le_of_lt hw3 (Nat.pos_of_ne_zero (by simp)), by rw [aw_up_ne _ _ (Or.inr (by decide))]; exact t3, A3⟩
    refine aw_istore_n dX6_goPath_12 (by decide) ?_
    refine aw_lv (lv2 := [.ref _, .int _, .null, .null]) rfl ?_
    refine aw_aload_n dX6_goPath_13 rfl ?_
    refine aw_iconst (v := nI 0) dX6_goPath_14 (by decide) ?_
    refine aw_putI dX6_goPath_15 fwX6_142 hS.o rfl ?_
    refine aw_iconst (v := nI 0) dX6_goPath_18 (by decide) ?_
    refine aw_pc (pc2 := 19) rfl ?_
    refine aw_istore_n dX6_goPath_19 (by decide) ?_
    refine aw_lv (lv2 := [.ref _, .int _, .int _, .null]) rfl ?_
    exact lX6_goPath (I0 := I) (J0 := J) hS hn hn3 hm hm6 ht hcs hd 64 0 _ (fun _ => 0) _ J3 (by omega) (fun a ha => by rw [aw_up_off _ _ (by omega)]; exact a3.1 a ha) b3 (aw_up_self _ _ _ _) (fun j hj => absurd hj (Nat.not_lt_zero j)) hst3 (fun I9 J9 l9 j9 n9 _ r9 => hQ I9 J9 l9 j9 (by rw [n9, Nat.zero_add]) (fun j hj => by have q := r9 j hj; rw [Nat.zero_add] at q; exact q))

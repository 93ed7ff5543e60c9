def rx_sl (I : aw_MI) (n m w : Nat) (t : Int32) (l : Nat) : Int64 := sp_left (rp_bd I l t) (rx_b I n m w) (fun i => rp_row I n l i) (rx_v I n m w t) n
def rx_fit (I : aw_MI) (n m : Nat) (x t : Int32) (w : Nat) : Int32 := sp_al (rp_rb (fun l => I 68 (6 * l)) (rx_y I n m w t) (rx_sl I n m w t) x) 0 m
def rx_gb (I : aw_MI) (n m : Nat) (x t : Int32) (w : Nat) : Bool := decide (cx_n w m ≤ n) && (decide (¬ rx_d I n m w = 0) && decide (¬ rx_fit I n m x t w = 0))
theorem rx_gb_t {I : aw_MI} {n m w : Nat} {x t : Int32} (h1 : rx_ok I n m w) (h2 : ¬ rx_fit I n m x t w = 0) : rx_gb I n m x t w = true := by
  simp only [rx_gb, Bool.and_eq_true, decide_eq_true_eq]
  exact ⟨h1.1, h1.2, h2⟩
theorem rx_gb_f {I : aw_MI} {n m w : Nat} {x t : Int32} (h : ¬ rx_ok I n m w ∨ rx_fit I n m x t w = 0) : ¬ rx_gb I n m x t w = true := by
  simp only [rx_gb, Bool.and_eq_true, decide_eq_true_eq]
  rintro ⟨h1, h2, h3⟩
  rcases h with h | h
  · exact h ⟨h1, h2⟩
  · exact h3 h
theorem sp_al_c {f g : Nat → Bool} : ∀ {z k m : Nat}, k + z = m → (∀ i, i < m → f i = g i) → sp_al f k z = sp_al g k z
  | 0, _, _, _, _ => rfl
  | z + 1, k, m, h, e => by
    unfold sp_al
    rw [e k (by omega), sp_al_c (m := m) (by omega) e]
theorem rp_slk_at {I I' : aw_MI} {J : aw_MJ} {n m w l : Nat} {t : Int32} (hE : rx_E I I') (ht : I' 65 3 = t) (hA : rx_At I n m w t J) : rp_slk I' J n l = rx_sl I n m w t l := by
  unfold rp_slk rx_sl
  rw [ht, rp_bd_c hE.2.2, hA.1]
  exact sp_left_c (fun i _ => rp_row_c hE.2.2) (fun i hi => hA.2.1 i hi)
theorem rx_fits {I I' : aw_MI} {J : aw_MJ} {n m w S : Nat} {t : Int32} (hE : rx_E I I') (ht : I' 65 3 = t) (hm : m ≤ 6) (hA : rx_At I n m w t J) : sp_al (rp_rt I' J n S) 0 m = rx_fit I n m (nI S) t w := by
  unfold rx_fit
  refine sp_al_c (m := m) (by omega) (fun l hl => ?_)
  unfold rp_rt rp_rb
  rw [rp_slk_at hE ht hA, hA.2.2 l (by omega), hE.2.2]
theorem lX8_works {G : aw_G} {d : Nat} {Ω : aw_O} {I0 : aw_MI} {J0 : aw_MJ} {Q : Int32 → aw_O → aw_MI → aw_MJ → Prop} {n m S : Nat} (hM : aw_model Ω 65) (hn : I0 65 0 = nI n) (hn3 : n ≤ 3) (hm : I0 65 4 = nI m) (hm6 : m ≤ 6) (hS : S < 2 ^ m) (hd : 5 ≤ d) (hN : ∀ I' J', mr_I I0 I' → mr_J J0 J' → cx_find (rx_gb I0 n m (nI S) (I0 65 3)) (nI S) (S + 1) 0 = -1 → Q (-1) Ω I' J') (hQ : ∀ w I' J', w ≤ S → mr_I I0 I' → mr_J J0 J' → rx_gb I0 n m (nI S) (I0 65 3) w = true → rx_At I0 n m w (I0 65 3) J' → cx_find (rx_gb I0 n m (nI S) (I0 65 3)) (nI S) (S + 1) 0 = nI w → Q (nI w) Ω I' J') : ∀ (z w : Nat) (I : aw_MI) (J : aw_MJ), z + w = S + 1 → mr_I I0 I → mr_J J0 J → cx_find (rx_gb I0 n m (nI S) (I0 65 3)) (nI S) (S + 1) 0 = cx_find (rx_gb I0 n m (nI S) (I0 65 3)) (nI S) z w → AW G MX8_works (aw_nx Ω) d 0 0 (aw_QI Q) Ω I J 0 0 [.ref (aw_ad G 65), .int (nI S), .int (nI w)] 2 [] := by
  intro z
  induction z with
  | zero =>
    intro w I J h0 fI fJ hk
    have h64 : 2 ^ m ≤ 2 ^ 6 := Nat.pow_le_pow_right (by decide) hm6
    refine aw_iload_n dX8_works_2 rfl ?_
    refine aw_iload_n dX8_works_3 rfl ?_
    refine aw_gtN (t := 39) dX8_works_4 (by decide) (by omega) (by omega) (fun h1 => ?_) (fun h1 => absurd h1 (by omega))
    refine aw_iconst (v := -1) dX8_works_39 (by decide) ?_
    exact aw_iret dX8_works_40 rfl (hN I J fI fJ hk) (Nat.zero_le _) (Nat.zero_le _)
  | succ z ih =>
    intro w I J h0 fI fJ hk
    have h64 : 2 ^ m ≤ 2 ^ 6 := Nat.pow_le_pow_right (by decide) hm6
    have hn1 : I 65 0 = nI n := by rw [fI 65 0 (by decide) (by decide)]; exact hn
    have hm1 : I 65 4 = nI m := by rw [fI 65 4 (by decide) (by decide)]; exact hm
    refine aw_iload_n dX8_works_2 rfl ?_
    refine aw_iload_n dX8_works_3 rfl ?_
    refine aw_gtN (t := 39) dX8_works_4 (by decide) (by omega) (by omega) (fun h1 => ?_) (fun h1 => ?_)
    · skip
      exact absurd h1 (by omega)
    · skip
      refine aw_iload_n dX8_works_7 rfl ?_
      refine aw_iload_n dX8_works_8 rfl ?_
      refine aw_iconst (v := -1) dX8_works_9 (by decide) ?_
      refine aw_ixor dX8_works_10 ?_
      refine aw_iand dX8_works_11 ?_
      refine aw_pc (pc2 := 12) rfl ?_
      refine aw_if_ne (t := 33) dX8_works_12 (by decide) (fun h2 => ?_) (fun h2 => ?_)
      · skip
        refine aw_iincN dX8_works_33 rfl (by decide) ?_
        refine aw_lv (lv2 := [.ref _, .int _, .int _]) rfl ?_
        refine aw_goto (t := 2) dX8_works_36 (by decide) ?_
        refine ih (w + 1) _ _ (by omega) fI fJ ?_
        rw [hk, cx_find, if_neg h2]
      · skip
        refine aw_aload_n dX8_works_15 rfl ?_
        refine aw_iload_n dX8_works_16 rfl ?_
        refine aw_cvI (As := [_]) (d' := d - 1) dX8_works_17 lkX8_181 hM.o (by omega) rfl rfl (Nat.le_of_ble_eq_true rfl) ⟨Nat.le_refl _, Nat.le_refl _⟩ (tX8_finds hM hn1 hn3 hm1 hm6 (by omega) (by omega) ?_ ?_)
        · skip
          intro I1 J1 a1 b1 k1
          rw [rx_ok_c fI.E] at k1
          refine aw_if_eq (t := 33) dX8_works_20 (by decide) (fun h3 => ?_) (fun h3 => absurd h3 (by decide))
          refine aw_iincN dX8_works_33 rfl (by decide) ?_
          refine aw_lv (lv2 := [.ref _, .int _, .int _]) rfl ?_
          refine aw_goto (t := 2) dX8_works_36 (by decide) ?_
          refine ih (w + 1) _ _ (by omega) (fI.tr a1) (fJ.tr b1) ?_
          rw [hk, cx_find, if_pos h2, if_neg (rx_gb_f (Or.inl k1))]
        · skip
          intro I1 J1 a1 b1 k1 A1
          rw [rx_ok_c fI.E] at k1
          rw [rx_At_c fI.E, fI 65 3 (by decide) (by decide)] at A1
          have fI1 := fI.tr a1
          have fJ1 := fJ.tr b1
          have hn2 : I1 65 0 = nI n := by rw [fI1 65 0 (by decide) (by decide)]; exact hn
          have hm2 : I1 65 4 = nI m := by rw [fI1 65 4 (by decide) (by decide)]; exact hm
          have ht2 : I1 65 3 = I0 65 3 := fI1 65 3 (by decide) (by decide)
          refine aw_if_eq (t := 33) dX8_works_20 (by decide) (fun h4 => absurd h4 (by decide)) (fun h4 => ?_)
          refine aw_aload_n dX8_works_23 rfl ?_
          refine aw_iload_n dX8_works_24 rfl ?_
          refine aw_cvI (As := [_]) (d' := d - 1) dX8_works_25 lkX8_184 hM.o (by omega) rfl rfl (Nat.le_of_ble_eq_true rfl) ⟨Nat.le_refl _, Nat.le_refl _⟩ (tX8_isRight hM hn2 hn3 hm2 hm6 hS (by omega) ?_)
          refine aw_toI (rx_fits fI1.E ht2 hm6 A1) ?_
          refine aw_if_eq (t := 33) dX8_works_28 (by decide) (fun h5 => ?_) (fun h5 => ?_)
          · skip
            refine aw_iincN dX8_works_33 rfl (by decide) ?_
            refine aw_lv (lv2 := [.ref _, .int _, .int _]) rfl ?_
            refine aw_goto (t := 2) dX8_works_36 (by decide) ?_
            have hg : ¬ rx_gb I0 n m (nI S) (I0 65 3) w = true := rx_gb_f (Or.inr h5)
            refine ih (w + 1) _ _ (by omega) fI1 fJ1 ?_
            rw [hk, cx_find, if_pos h2, if_neg hg]
          · skip
            refine aw_iload_n dX8_works_31 rfl ?_
            have hg : rx_gb I0 n m (nI S) (I0 65 3) w = true := rx_gb_t k1 h5
            exact aw_iret dX8_works_32 rfl (hQ w _ _ (by omega) fI1 fJ1 hg A1 (by rw [hk, cx_find, if_pos h2, if_pos hg])) (Nat.zero_le _) (Nat.zero_le _)
theorem tX8_works {G : aw_G} {d : Nat} {Ω : aw_O} {I : aw_MI} {J : aw_MJ} {Q : Int32 → aw_O → aw_MI → aw_MJ → Prop} {n m S : Nat} (hM : aw_model Ω 65) (hn : I 65 0 = nI n) (hn3 : n ≤ 3) (hm : I 65 4 = nI m) (hm6 : m ≤ 6) (hS : S < 2 ^ m) (hd : 5 ≤ d) (hN : ∀ I' J', mr_I I I' → mr_J J J' → cx_find (rx_gb I n m (nI S) (I 65 3)) (nI S) (S + 1) 0 = -1 → Q (-1) Ω I' J') (hQ : ∀ w I' J', w ≤ S → mr_I I I' → mr_J J J' → rx_gb I n m (nI S) (I 65 3) w = true → rx_At I n m w (I 65 3) J' → cx_find (rx_gb I n m (nI S) (I 65 3)) (nI S) (S + 1) 0 = nI w → Q (nI w) Ω I' J') : aw_Call G MX8_works d 0 0 [.ref (aw_ad G 65), .int (nI S)] Ω I J (aw_QI Q) := by
  refine aw_enter (by decide +kernel) rfl (Nat.le_of_ble_eq_true rfl) ?_
  show AW G MX8_works (aw_nx Ω) d 0 0 (aw_QI Q) Ω I J 0 0 [.ref (aw_ad G 65), .int (nI S), .null] 0 []
  refine aw_iconst (v := nI 0) dX8_works_0 (by decide) ?_
  refine aw_istore_n dX8_works_1 (by decide) ?_
  refine aw_lv (lv2 := [.ref _, .int _, .int _]) rfl ?_
  exact lX8_works hM hn hn3 hm hm6 hS hd hN hQ (S + 1) 0 I J (by omega) mr_I.rf mr_J.rf rfl

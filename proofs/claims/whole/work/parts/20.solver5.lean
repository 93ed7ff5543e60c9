/-! THE SOLVER: find -/
theorem sp_wt_c {mb : Nat → Nat} {f g : Nat → Int64} : ∀ {k l : Nat}, (∀ j, j < k → f j = g j) → sp_wt mb f k l = sp_wt mb g k l
  | 0, _, _ => rfl
  | k + 1, l, h => by
    unfold sp_wt
    rw [h k (by omega), sp_wt_c (fun j hj => h j (by omega))]
theorem sp_left_c {v : Int32} {b : Int64} {r r' : Nat → Int32} {x x' : Nat → Int64} : ∀ {n : Nat}, (∀ i, i < n → r i = r' i) → (∀ i, i < n → x i = x' i) → sp_left v b r x n = sp_left v b r' x' n
  | 0, _, _ => rfl
  | n + 1, h, g => by
    unfold sp_left
    rw [sp_left_c (fun i hi => h i (by omega)) (fun i hi => g i (by omega)), h n (by omega), g n (by omega)]
theorem sp_fit_c {kd kd' : Nat → Int32} {y y' sl sl' : Nat → Int64} {x : Int32} : ∀ {z l m : Nat}, z + l = m → (∀ i, i < m → kd i = kd' i) → (∀ i, i < m → y i = y' i) → (∀ i, i < m → sl i = sl' i) → sp_fit kd y sl x l z = sp_fit kd' y' sl' x l z
  | 0, _, _, _, _, _, _ => rfl
  | z + 1, l, m, hz, h1, h2, h3 => by
    unfold sp_fit
    rw [sp_fit_c (m := m) (by omega) h1 h2 h3, h1 l (by omega), h2 l (by omega), h3 l (by omega)]
/-- at a set's lines: the number below, place and weights at a tide, how they move -/
def cx_b (I : aw_MI) (c n m w : Nat) : Int64 := (sp_sg (cx_S I c n m w).2).toInt64 * (cx_S I c n m w).2
def cx_v (I : aw_MI) (c n m w : Nat) (t : Int32) : Nat → Int64 := la_v (cx_S I c n m w).1 (cx_S I c n m w).2 (n + cx_n w m) t
def cx_u (I : aw_MI) (c n m w : Nat) : Nat → Int64 := la_u (cx_S I c n m w).1 (cx_S I c n m w).2 (n + cx_n w m)
def cx_y (I : aw_MI) (c n m w : Nat) (t : Int32) (l : Nat) : Int64 := sp_wt (cx_mb w m) (fun j => cx_v I c n m w t (n + j)) (cx_n w m) l
def cx_z (I : aw_MI) (c n m w : Nat) (l : Nat) : Int64 := sp_wt (cx_mb w m) (fun j => cx_u I c n m w (n + j)) (cx_n w m) l
def cx_sl (I : aw_MI) (c n m w : Nat) (t : Int32) (l : Nat) : Int64 := sp_left (sp_bd I c l t) (cx_b I c n m w) (sp_rw I c l) (cx_v I c n m w t) n
def cx_fit (I : aw_MI) (c n m : Nat) (x t : Int32) (w : Nat) : Int32 := sp_fit (I (c + 3)) (cx_y I c n m w t) (cx_sl I c n m w t) x 0 m
def cx_gb (I : aw_MI) (c n m : Nat) (x t : Int32) (w : Nat) : Bool := decide (cx_n w m ≤ n) && (decide (ce_ok (cx_M I c n m w) 0 (n + cx_n w m) = nI 1) && decide (¬ cx_fit I c n m x t w = 0))
def cx_find (gb : Nat → Bool) (x : Int32) : Nat → Nat → Int32
  | 0, _ => -1
  | z + 1, w => if nI w &&& (x ^^^ (-1)) = 0 then (if gb w = true then nI w else cx_find gb x z (w + 1)) else cx_find gb x z (w + 1)
def cx_At (I : aw_MI) (c n m w : Nat) (t : Int32) (s : Nat) (J : aw_MJ) : Prop := J (s + 1) 2 = cx_b I c n m w ∧ J (s + 4) 2 = cx_b I c n m w ∧ (∀ i, i < n → J (s + 2) i = cx_v I c n m w t i ∧ J (s + 5) i = cx_u I c n m w i) ∧ ∀ l, l < 6 → J (s + 3) l = cx_y I c n m w t l ∧ J (s + 6) l = cx_z I c n m w l
theorem cx_gb_t {I : aw_MI} {c n m w : Nat} {x t : Int32} (h1 : cx_ok I c n m w) (h2 : ¬ cx_fit I c n m x t w = 0) : cx_gb I c n m x t w = true := by
  simp only [cx_gb, Bool.and_eq_true, decide_eq_true_eq]
  exact ⟨h1.1, h1.2, h2⟩
theorem cx_gb_f {I : aw_MI} {c n m w : Nat} {x t : Int32} (h : ¬ cx_ok I c n m w ∨ cx_fit I c n m x t w = 0) : ¬ cx_gb I c n m x t w = true := by
  simp only [cx_gb, Bool.and_eq_true, decide_eq_true_eq]
  rintro ⟨h1, h2, h3⟩
  rcases h with h | h
  · exact h ⟨h1, h2⟩
  · exact h3 h
theorem cx_ok_c {s c n m w : Nat} {I I' : aw_MI} (h : ∀ a, a < s → I' a = I a) (hc : c + 6 < s) : cx_ok I' c n m w = cx_ok I c n m w := by
  simp only [cx_ok, cx_M_c h hc]
theorem cx_S_c {s c n m w : Nat} {I I' : aw_MI} (h : ∀ a, a < s → I' a = I a) (hc : c + 6 < s) : cx_S I' c n m w = cx_S I c n m w := by
  simp only [cx_S, cx_M_c h hc]
theorem sv_h {s : Nat} {I : aw_MI} {t : Int32} : sv_I s I (aw_up I s 10 t) := ⟨fun a ha => aw_up_off I _ (by omega), aw_up_off I _ (by omega), aw_up_off I _ (by omega), aw_up_ne I _ (Or.inr (by decide))⟩
/-- behind layAt -/
theorem cx_lay {I : aw_MI} {c n m w s : Nat} {t : Int32} {J1 J2 : aw_MJ} (hr : ∀ r k, r < n + cx_n w m → k < n + cx_n w m + 2 → J1 (s + 9 + r) k = (cx_S I c n m w).1 r k) (hb : J1 s 12 = (cx_S I c n m w).2) (h1 : J2 (s + 1) 2 = (sp_sg (J1 s 12)).toInt64 * J1 s 12) (h2 : J2 (s + 4) 2 = (sp_sg (J1 s 12)).toInt64 * J1 s 12) (h3 : ∀ i, i < n → J2 (s + 2) i = la_v (fun r => J1 (s + 9 + r)) (J1 s 12) (n + cx_n w m) t i ∧ J2 (s + 5) i = la_u (fun r => J1 (s + 9 + r)) (J1 s 12) (n + cx_n w m) i) (h4 : ∀ l, l < 6 → J2 (s + 3) l = sp_wt (cx_mb w m) (fun j => la_v (fun r => J1 (s + 9 + r)) (J1 s 12) (n + cx_n w m) t (n + j)) (n + cx_n w m - n) l ∧ J2 (s + 6) l = sp_wt (cx_mb w m) (fun j => la_u (fun r => J1 (s + 9 + r)) (J1 s 12) (n + cx_n w m) (n + j)) (n + cx_n w m - n) l) : cx_At I c n m w t s J2 := by
  have hu : ∀ r, r < n + cx_n w m → la_u (fun r => J1 (s + 9 + r)) (J1 s 12) (n + cx_n w m) r = cx_u I c n m w r := fun r h => by
    show _ * J1 (s + 9 + r) (n + cx_n w m + 1) = _
    rw [hr r _ h (by omega), hb]
    rfl
  have hv : ∀ r, r < n + cx_n w m → la_v (fun r => J1 (s + 9 + r)) (J1 s 12) (n + cx_n w m) t r = cx_v I c n m w t r := fun r h => by
    show _ * J1 (s + 9 + r) (n + cx_n w m) + _ * la_u _ _ _ _ = _
    rw [hu r h, hr r _ h (by omega), hb]
    rfl
  refine ⟨by rw [h1, hb]; rfl, by rw [h2, hb]; rfl, fun i hi => ?_, fun l hl => ?_⟩
  · rw [(h3 i hi).1, (h3 i hi).2, hv i (by omega), hu i (by omega)]
    exact ⟨rfl, rfl⟩
  · rw [(h4 l hl).1, (h4 l hl).2, show n + cx_n w m - n = cx_n w m by omega, sp_wt_c (fun j hj => hv (n + j) (by omega)), sp_wt_c (fun j hj => hu (n + j) (by omega))]
    exact ⟨rfl, rfl⟩
theorem cx_slk {I0 I : aw_MI} {J : aw_MJ} {c n m w s l : Nat} {t : Int32} (h : ∀ a, a < s → I a = I0 a) (hc : c + 6 < s) (ht : I s 10 = t) (hA : cx_At I0 c n m w t s J) : sp_slk I J c (s + 1) n (I s 10) l = cx_sl I0 c n m w t l := by
  unfold sp_slk cx_sl
  rw [ht, sp_bd_c h hc, sp_rw_c h hc, hA.1]
  exact sp_left_c (fun _ _ => rfl) (fun i hi => (hA.2.2.1 i hi).1)
theorem cx_fits {I0 I : aw_MI} {J : aw_MJ} {c n m w s : Nat} {t x : Int32} (h : ∀ a, a < s → I a = I0 a) (hc : c + 6 < s) (ht : I s 10 = t) (hm : m ≤ 6) (hA : cx_At I0 c n m w t s J) : sp_fit (I (c + 3)) (J (s + 3)) (sp_slk I J c (s + 1) n (I s 10)) x 0 m = cx_fit I0 c n m x t w := by
  unfold cx_fit
  exact sp_fit_c (m := m) (by omega) (fun i _ => by rw [h (c + 3) (by omega)]) (fun i hi => (hA.2.2.2 i (by omega)).1) (fun i hi => cx_slk h hc ht hA)

theorem lX6_find {G : aw_G} {d : Nat} {Ω : aw_O} {I0 : aw_MI} {J0 : aw_MJ} {Q : Int32 → aw_O → aw_MI → aw_MJ → Prop} {s c n m S : Nat} {t : Int32} (hS : aw_solver Ω s c) (hn : I0 c 0 = nI n) (hn3 : n ≤ 3) (hm : I0 c 2 = nI m) (hm6 : m ≤ 6) (hcs : c + 6 < s) (hS2 : S < 2 ^ m) (hd : 4 ≤ d) (hN : ∀ I' J', sv_I s I0 I' → sv_J s J0 J' → cx_find (cx_gb I0 c n m (nI S) t) (nI S) (S + 1) 0 = -1 → Q (-1) Ω I' J') (hQ : ∀ w I' J', w ≤ S → sv_I s I0 I' → sv_J s J0 J' → cx_gb I0 c n m (nI S) t w = true → I' s 10 = t → cx_At I0 c n m w t s J' → cx_find (cx_gb I0 c n m (nI S) t) (nI S) (S + 1) 0 = nI w → Q (nI w) Ω I' J') : ∀ (z w : Nat) (I : aw_MI) (J : aw_MJ), z + w = S + 1 → sv_I s I0 I → sv_J s J0 J → cx_find (cx_gb I0 c n m (nI S) t) (nI S) (S + 1) 0 = cx_find (cx_gb I0 c n m (nI S) t) (nI S) z w → AW G MX6_find (aw_nx Ω) d 0 0 (aw_QI Q) Ω I J 0 0 [.ref (aw_ad G s), .int (nI S), .int t, .int (nI w)] 2 [] := by
  intro z
  induction z with
  | zero =>
    intro w I J h0 fI fJ hk
    have h64 : 2 ^ m ≤ 2 ^ 6 := Nat.pow_le_pow_right (by decide) hm6
    refine aw_iload_n dX6_find_2 rfl ?_
    refine aw_iload_n dX6_find_3 rfl ?_
    refine aw_gtN (t := 50) dX6_find_4 (by decide) (by omega) (by omega) (fun h1 => ?_) (fun h1 => absurd h1 (by omega))
    refine aw_iconst (v := -1) dX6_find_50 (by decide) ?_
    exact aw_iret dX6_find_51 rfl (hN I J fI fJ hk) (Nat.zero_le _) (Nat.zero_le _)
  | succ z ih =>
    intro w I J h0 fI fJ hk
    have h64 : 2 ^ m ≤ 2 ^ 6 := Nat.pow_le_pow_right (by decide) hm6
    have hn1 : I c 0 = nI n := by rw [fI.1 c (by omega)]; exact hn
    have hm1 : I c 2 = nI m := by rw [fI.1 c (by omega)]; exact hm
    refine aw_iload_n dX6_find_2 rfl ?_
    refine aw_iload_n dX6_find_3 rfl ?_
    refine aw_gtN (t := 50) dX6_find_4 (by decide) (by omega) (by omega) (fun h1 => ?_) (fun h1 => ?_)
    · skip
      exact absurd h1 (by omega)
    · skip
      refine aw_iload_n dX6_find_7 rfl ?_
      refine aw_bipush (v := nI 64) dX6_find_8 (by decide) ?_
      refine aw_geN (t := 50) dX6_find_10 (by decide) (by omega) (by omega) (fun h2 => ?_) (fun h2 => ?_)
      · skip
        exact absurd h2 (by omega)
      · skip
        refine aw_iload_n dX6_find_13 rfl ?_
        refine aw_iload_n dX6_find_14 rfl ?_
        refine aw_iconst (v := -1) dX6_find_15 (by decide) ?_
        refine aw_ixor dX6_find_16 ?_
        refine aw_iand dX6_find_17 ?_
        refine aw_pc (pc2 := 18) rfl ?_
        refine aw_if_ne (t := 44) dX6_find_18 (by decide) (fun h3 => ?_) (fun h3 => ?_)
        · skip
          refine aw_iincN dX6_find_44 rfl (by decide) ?_
          refine aw_lv (lv2 := [.ref _, .int _, .int _, .int _]) rfl ?_
          refine aw_goto (t := 2) dX6_find_47 (by decide) ?_
          refine ih (w + 1) _ _ (by omega) fI fJ ?_
          rw [hk, cx_find, if_neg h3]
        · skip
          refine aw_aload_n dX6_find_21 rfl ?_
          refine aw_iload_n dX6_find_22 rfl ?_
          refine aw_cvI (As := [_]) (d' := d - 1) dX6_find_23 lkX6_40 hS.o (by omega) rfl rfl (Nat.le_of_ble_eq_true rfl) ⟨Nat.le_refl _, Nat.le_refl _⟩ (tX6_meet hS hn1 hn3 hm1 hm6 hcs (by omega) (by omega) ?_ ?_)
          · skip
            intro I1 J1 a1 b1 k1
            refine aw_if_eq (t := 44) dX6_find_26 (by decide) (fun h4 => ?_) (fun h4 => absurd h4 (by decide))
            refine aw_iincN dX6_find_44 rfl (by decide) ?_
            refine aw_lv (lv2 := [.ref _, .int _, .int _, .int _]) rfl ?_
            refine aw_goto (t := 2) dX6_find_47 (by decide) ?_
            refine ih (w + 1) _ _ (by omega) (fI.tr a1) (fJ.tr b1) ?_
            rw [cx_ok_c (fun a ha => fI.1 a (Or.inl ha)) hcs] at k1
            rw [hk, cx_find, if_pos h3, if_neg (cx_gb_f (Or.inl k1))]
          · skip
            intro I1 J1 a1 b1 k1 w1 mb1 r1 d1
            have hlow : ∀ a, a < s → I a = I0 a := fun a ha => fI.1 a (Or.inl ha)
            rw [cx_ok_c hlow hcs] at k1
            rw [cx_S_c hlow hcs] at d1
            simp only [cx_S_c hlow hcs] at r1
            have hk6 : cx_n w m ≤ n := k1.1
            have hmb1 : ∀ j, j < n + cx_n w m - n → I1 (s + 15) j = nI (cx_mb w m j) ∧ cx_mb w m j < 6 := fun j hj => ⟨mb1 j (by omega), Nat.lt_of_lt_of_le (sp_mb_lt (by show j < cx_n w m; omega)) hm6⟩
            have hn2 : I1 c 0 = nI n := by rw [a1.1 c (by omega)]; exact hn1
            refine aw_if_eq (t := 44) dX6_find_26 (by decide) (fun h5 => absurd h5 (by decide)) (fun h5 => ?_)
            refine aw_aload_n dX6_find_29 rfl ?_
            refine aw_iload_n dX6_find_30 rfl ?_
            refine aw_cvV (As := [_]) (d' := d - 1) dX6_find_31 lkX6_44 hS.o (by omega) rfl rfl (Nat.le_of_ble_eq_true rfl) ⟨Nat.le_refl _, Nat.le_refl _⟩ (tX6_layAt (n := n) (w := n + cx_n w m) (mb := cx_mb w m) hS hn2 hn3 hcs w1 (by omega) (by omega) hmb1 (by omega) ?_)
            · skip
              intro J2 b2 l1 l2 l3 l4 _ _
              have hA : cx_At I0 c n m w t s J2 := cx_lay r1 d1 l1 l2 l3 l4
              have fI2 : sv_I s I0 (aw_up I1 s 10 t) := (fI.tr a1).tr sv_h
              have fJ2 : sv_J s J0 J2 := (fJ.tr b1).tr b2
              have hn3c : aw_up I1 s 10 t c 0 = nI n := by rw [aw_up_off I1 _ (by omega)]; exact hn2
              have hm3c : aw_up I1 s 10 t c 2 = nI m := by rw [aw_up_off I1 _ (by omega), a1.1 c (by omega)]; exact hm1
              have ht2 : aw_up I1 s 10 t s 10 = t := aw_up_self _ _ _ _
              refine aw_aload_n dX6_find_34 rfl ?_
              refine aw_iload_n dX6_find_35 rfl ?_
              refine aw_cvI (As := [_]) (d' := d - 1) dX6_find_36 lkX6_48 hS.o (by omega) rfl rfl (Nat.le_of_ble_eq_true rfl) ⟨Nat.le_refl _, Nat.le_refl _⟩ (tX6_fits hS hn3c hn3 hm3c hm6 (by omega) ?_)
              refine aw_toI (cx_fits (fun a ha => fI2.1 a (Or.inl ha)) hcs ht2 hm6 hA) ?_
              refine aw_if_eq (t := 44) dX6_find_39 (by decide) (fun h6 => ?_) (fun h6 => ?_)
              · skip
                refine aw_iincN dX6_find_44 rfl (by decide) ?_
                refine aw_lv (lv2 := [.ref _, .int _, .int _, .int _]) rfl ?_
                refine aw_goto (t := 2) dX6_find_47 (by decide) ?_
                refine ih (w + 1) _ _ (by omega) fI2 fJ2 ?_
                rw [hk, cx_find, if_pos h3, if_neg (cx_gb_f (Or.inr h6))]
              · skip
                refine aw_iload_n dX6_find_42 rfl ?_
                have hg : cx_gb I0 c n m (nI S) t w = true := cx_gb_t k1 h6
                exact aw_iret dX6_find_43 rfl (hQ w _ _ (by omega) fI2 fJ2 hg ht2 hA (by rw [hk, cx_find, if_pos h3, if_pos hg])) (Nat.zero_le _) (Nat.zero_le _)
theorem tX6_find {G : aw_G} {d : Nat} {Ω : aw_O} {I : aw_MI} {J : aw_MJ} {Q : Int32 → aw_O → aw_MI → aw_MJ → Prop} {s c n m S : Nat} {t : Int32} (hS : aw_solver Ω s c) (hn : I c 0 = nI n) (hn3 : n ≤ 3) (hm : I c 2 = nI m) (hm6 : m ≤ 6) (hcs : c + 6 < s) (hS2 : S < 2 ^ m) (hd : 4 ≤ d) (hN : ∀ I' J', sv_I s I I' → sv_J s J J' → cx_find (cx_gb I c n m (nI S) t) (nI S) (S + 1) 0 = -1 → Q (-1) Ω I' J') (hQ : ∀ w I' J', w ≤ S → sv_I s I I' → sv_J s J J' → cx_gb I c n m (nI S) t w = true → I' s 10 = t → cx_At I c n m w t s J' → cx_find (cx_gb I c n m (nI S) t) (nI S) (S + 1) 0 = nI w → Q (nI w) Ω I' J') : aw_Call G MX6_find d 0 0 [.ref (aw_ad G s), .int (nI S), .int t] Ω I J (aw_QI Q) := by
  refine aw_enter (by decide +kernel) rfl (Nat.le_of_ble_eq_true rfl) ?_
  show AW G MX6_find (aw_nx Ω) d 0 0 (aw_QI Q) Ω I J 0 0 [.ref (aw_ad G s), .int (nI S), .int t, .null] 0 []
  refine aw_iconst (v := nI 0) dX6_find_0 (by decide) ?_
  refine aw_istore_n dX6_find_1 (by decide) ?_
  refine aw_lv (lv2 := [.ref _, .int _, .int _, .int _]) rfl ?_
  exact lX6_find hS hn hn3 hm hm6 hcs hS2 hd hN hQ (S + 1) 0 I J (by omega) sv_I.rf sv_J.rf rfl

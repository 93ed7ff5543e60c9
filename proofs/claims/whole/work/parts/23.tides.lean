/-! THE SOLVER: tides -/
/-- what stands while a set's rows are there -/
def ct_P (I0 : aw_MI) (c n m w s : Nat) (I : aw_MI) (J : aw_MJ) : Prop := (∀ a, a < s ∨ s + 17 ≤ a → I a = I0 a) ∧ I s 11 = nI (n + cx_n w m) ∧ (∀ j, j < n + cx_n w m - n → I (s + 15) j = nI (cx_mb w m j) ∧ cx_mb w m j < 6) ∧ (∀ r k, r < n + cx_n w m → k < n + cx_n w m + 2 → J (s + 9 + r) k = (cx_S I0 c n m w).1 r k) ∧ J s 12 = (cx_S I0 c n m w).2
def ct_F (I0 : aw_MI) (c n m w : Nat) (x : Int32) (f : Nat → Int32) (t k : Nat) : Int32 := if k < t ∧ f k = -1 ∧ ¬ cx_fit I0 c n m x (nI k) w = 0 then nI w else f k
theorem ct_F_s {I0 : aw_MI} {c n m w : Nat} {x : Int32} {f : Nat → Int32} {t : Nat} (k : Nat) (h : k ≠ t) : ct_F I0 c n m w x f (t + 1) k = ct_F I0 c n m w x f t k := by
  unfold ct_F
  by_cases e : k < t
  · have e2 : k < t + 1 := by omega
    simp only [e, e2, true_and]
  · have e2 : ¬ k < t + 1 := by omega
    simp only [e, e2, false_and]
theorem ct_F_t {I0 : aw_MI} {c n m w : Nat} {x : Int32} {f : Nat → Int32} {t : Nat} (h : f t = -1) (h2 : ¬ cx_fit I0 c n m x (nI t) w = 0) : ct_F I0 c n m w x f (t + 1) t = nI w := by
  unfold ct_F
  rw [if_pos ⟨by omega, h, h2⟩]
theorem ct_F_o {I0 : aw_MI} {c n m w : Nat} {x : Int32} {f : Nat → Int32} {t : Nat} (h : ¬ f t = -1 ∨ cx_fit I0 c n m x (nI t) w = 0) : ct_F I0 c n m w x f (t + 1) t = f t := by
  unfold ct_F
  rw [if_neg]
  rintro ⟨-, h1, h2⟩
  rcases h with h | h
  · exact h h1
  · exact h2 h
theorem ct_F_at {I0 : aw_MI} {c n m w : Nat} {x : Int32} {f : Nat → Int32} {t : Nat} : ct_F I0 c n m w x f t t = f t := by
  unfold ct_F
  rw [if_neg (fun q => absurd q.1 (Nat.lt_irrefl t))]

theorem lX6_claimTides {G : aw_G} {d : Nat} {Ω : aw_O}  {Q : aw_O → aw_MI → aw_MJ → Prop} {s c n m w T : Nat} {x : Int32} {f : Nat → Int32} {I0 : aw_MI} {J0 : aw_MJ} (hS : aw_solver Ω s c) (hn : I0 c 0 = nI n) (hn3 : n ≤ 3) (hm : I0 c 2 = nI m) (hm6 : m ≤ 6) (hcs : c + 6 < s) (hw : w < 2 ^ m) (hk6 : cx_n w m ≤ n) (hT : T ≤ 40) (hd : 4 ≤ d) (hQ : ∀ I' J', (∀ a, a < s ∨ s + 17 ≤ a → I' a = I0 a) → sv_J s J0 J' → (∀ k, k ≤ 40 → I' (s + 16) k = ct_F I0 c n m w x f (T + 1) k) → Q Ω I' J') : ∀ (z t : Nat) (I : aw_MI) (J : aw_MJ), t ≤ T + 1 → T + 1 - t < z → ct_P I0 c n m w s I J → sv_J s J0 J → (∀ k, k ≤ 40 → I (s + 16) k = ct_F I0 c n m w x f t k) → AW G MX6_claimTides (aw_nx Ω) d 0 0 (aw_QV Q) Ω I J 0 0 [.ref (aw_ad G s), .int (nI w), .int x, .int (nI T), .int (nI t)] 3 [] := by
  intro z
  induction z with
  | zero =>
    intro t I J h0 hz hP fJ hF
    exact absurd hz (by omega)
  | succ z ih =>
    intro t I J h0 hz hP fJ hF
    refine aw_iload dX6_claimTides_3 rfl ?_
    refine aw_iload_n dX6_claimTides_5 rfl ?_
    refine aw_gtN (t := 55) dX6_claimTides_6 (by decide) (by omega) (by omega) (fun h1 => ?_) (fun h1 => ?_)
    · skip
      have e1 : t = T + 1 := by omega
      subst e1
      exact aw_vret dX6_claimTides_55 rfl (hQ I J hP.1 fJ hF) (Nat.zero_le _) (Nat.zero_le _)
    · skip
      refine aw_iload dX6_claimTides_9 rfl ?_
      refine aw_bipush (v := nI 40) dX6_claimTides_11 (by decide) ?_
      refine aw_gtN (t := 55) dX6_claimTides_13 (by decide) (by omega) (by omega) (fun h2 => ?_) (fun h2 => ?_)
      · skip
        exact absurd h2 (by omega)
      · skip
        refine aw_aload_n dX6_claimTides_16 rfl ?_
        refine aw_getR dX6_claimTides_17 flX6_33 hS.o hS.p9 ?_
        refine aw_iload dX6_claimTides_20 rfl ?_
        refine aw_ialdv (v := f t) dX6_claimTides_22 hS.s9 rfl (by omega) (by rw [hF t (by omega), ct_F_at]) ?_
        refine aw_iconst (v := -1) dX6_claimTides_23 (by decide) ?_
        refine aw_pc (pc2 := 24) rfl ?_
        refine aw_icmp_ne (t := 49) dX6_claimTides_24 (by decide) (fun h3 => ?_) (fun h3 => ?_)
        · skip
          refine aw_iincN dX6_claimTides_49 rfl (by decide) ?_
          refine aw_lv (lv2 := [.ref _, .int _, .int _, .int _, .int _]) rfl ?_
          refine aw_goto (t := 3) dX6_claimTides_52 (by decide) ?_
          refine ih (t + 1) I J (by omega) (by omega) hP fJ (fun k hk => ?_)
          by_cases e9 : k = t
          · subst e9
            rw [hF k hk, ct_F_at, ct_F_o (Or.inl (fun q => h3 q))]
          · rw [hF k hk, ct_F_s k e9]
        · skip
          refine aw_aload_n dX6_claimTides_27 rfl ?_
          refine aw_iload dX6_claimTides_28 rfl ?_
          refine aw_cvV (As := [_]) (d' := d - 1) dX6_claimTides_30 lkX6_44 hS.o (by omega) rfl rfl (Nat.le_of_ble_eq_true rfl) ⟨Nat.le_refl _, Nat.le_refl _⟩ (tX6_layAt (n := n) (w := n + cx_n w m) (mb := cx_mb w m) hS (by rw [hP.1 c (by omega)]; exact hn) hn3 hcs hP.2.1 (by omega) (by omega) hP.2.2.1 (by omega) ?_)
          · skip
            intro J2 b2 l1 l2 l3 l4 l5 l6
            have hA : cx_At I0 c n m w (nI t) s J2 := cx_lay hP.2.2.2.1 hP.2.2.2.2 l1 l2 l3 l4
            have hlow : ∀ a, a < s ∨ s + 17 ≤ a → aw_up I s 10 (nI t) a = I0 a := fun a ha => by rw [aw_up_off I _ (by omega)]; exact hP.1 a ha
            have hn3c : aw_up I s 10 (nI t) c 0 = nI n := by rw [hlow c (by omega)]; exact hn
            have hm3c : aw_up I s 10 (nI t) c 2 = nI m := by rw [hlow c (by omega)]; exact hm
            have ht2 : aw_up I s 10 (nI t) s 10 = nI t := aw_up_self _ _ _ _
            have hP2 : ct_P I0 c n m w s (aw_up I s 10 (nI t)) J2 := ⟨hlow, by rw [aw_up_ne I _ (Or.inr (by decide))]; exact hP.2.1, fun j hj => by rw [aw_up_off I _ (by omega)]; exact hP.2.2.1 j hj, fun r k h8 h9 => by rw [l6 r]; exact hP.2.2.2.1 r k h8 h9, by rw [l5]; exact hP.2.2.2.2⟩
            refine aw_aload_n dX6_claimTides_33 rfl ?_
            refine aw_iload_n dX6_claimTides_34 rfl ?_
            refine aw_cvI (As := [_]) (d' := d - 1) dX6_claimTides_35 lkX6_48 hS.o (by omega) rfl rfl (Nat.le_of_ble_eq_true rfl) ⟨Nat.le_refl _, Nat.le_refl _⟩ (tX6_fits hS hn3c hn3 hm3c hm6 (by omega) ?_)
            refine aw_toI (cx_fits (fun a ha => hlow a (Or.inl ha)) hcs ht2 hm6 hA) ?_
            refine aw_if_eq (t := 49) dX6_claimTides_38 (by decide) (fun h4 => ?_) (fun h4 => ?_)
            · skip
              refine aw_iincN dX6_claimTides_49 rfl (by decide) ?_
              refine aw_lv (lv2 := [.ref _, .int _, .int _, .int _, .int _]) rfl ?_
              refine aw_goto (t := 3) dX6_claimTides_52 (by decide) ?_
              refine ih (t + 1) _ J2 (by omega) (by omega) hP2 (fJ.tr b2) (fun k hk => ?_)
              rw [aw_up_off I _ (by omega)]
              by_cases e9 : k = t
              · subst e9
                rw [hF k hk, ct_F_at, ct_F_o (Or.inr h4)]
              · rw [hF k hk, ct_F_s k e9]
            · skip
              refine aw_aload_n dX6_claimTides_41 rfl ?_
              refine aw_getR dX6_claimTides_42 flX6_33 hS.o hS.p9 ?_
              refine aw_iload dX6_claimTides_45 rfl ?_
              refine aw_iload_n dX6_claimTides_47 rfl ?_
              refine aw_iast dX6_claimTides_48 hS.s9 rfl (by omega) rfl ?_
              refine aw_pc (pc2 := 49) rfl ?_
              refine aw_iincN dX6_claimTides_49 rfl (by decide) ?_
              refine aw_lv (lv2 := [.ref _, .int _, .int _, .int _, .int _]) rfl ?_
              refine aw_goto (t := 3) dX6_claimTides_52 (by decide) ?_
              refine ih (t + 1) _ J2 (by omega) (by omega) ⟨fun a ha => by rw [aw_up_off _ _ (by omega)]; exact hP2.1 a ha, by rw [aw_up_off _ _ (by omega)]; exact hP2.2.1, fun j hj => by rw [aw_up_off _ _ (by omega)]; exact hP2.2.2.1 j hj, hP2.2.2.2.1, hP2.2.2.2.2⟩ (fJ.tr b2) (fun k hk => ?_)
              by_cases e9 : k = t
              · subst e9
                rw [aw_up_self, ct_F_t h3 h4]
              · rw [aw_up_ne _ _ (Or.inr e9), aw_up_off I _ (by omega), hF k hk, ct_F_s k e9]
theorem tX6_claimTides {G : aw_G} {d : Nat} {Ω : aw_O} {I : aw_MI} {J : aw_MJ} {Q : aw_O → aw_MI → aw_MJ → Prop} {s c n m w T : Nat} {x : Int32} {f : Nat → Int32} (hS : aw_solver Ω s c) (hn : I c 0 = nI n) (hn3 : n ≤ 3) (hm : I c 2 = nI m) (hm6 : m ≤ 6) (hcs : c + 6 < s) (hw : w < 2 ^ m) (hk6 : cx_n w m ≤ n) (hT : T ≤ 40) (hd : 4 ≤ d) (hP : ct_P I c n m w s I J) (hF : ∀ k, k ≤ 40 → I (s + 16) k = f k) (hQ : ∀ I' J', (∀ a, a < s ∨ s + 17 ≤ a → I' a = I a) → sv_J s J J' → (∀ k, k ≤ 40 → I' (s + 16) k = ct_F I c n m w x f (T + 1) k) → Q Ω I' J') : aw_Call G MX6_claimTides d 0 0 [.ref (aw_ad G s), .int (nI w), .int x, .int (nI T)] Ω I J (aw_QV Q) := by
  refine aw_enter (by decide +kernel) rfl (Nat.le_of_ble_eq_true rfl) ?_
  show AW G MX6_claimTides (aw_nx Ω) d 0 0 (aw_QV Q) Ω I J 0 0 [.ref (aw_ad G s), .int (nI w), .int x, .int (nI T), .null] 0 []
  refine aw_iconst (v := nI 0) dX6_claimTides_0 (by decide) ?_
  refine aw_istore dX6_claimTides_1 (by decide) ?_
  refine aw_lv (lv2 := [.ref _, .int _, .int _, .int _, .int _]) rfl ?_
  exact lX6_claimTides hS hn hn3 hm hm6 hcs hw hk6 hT hd hQ (T + 2) 0 I J (by omega) (by omega) hP sv_J.rf (fun k hk => by rw [hF k hk, ct_F, if_neg (fun q => absurd q.1 (by omega))])
def cx_fst (gb : Nat → Bool) : Nat → Int32
  | 0 => -1
  | w + 1 => if cx_fst gb w = -1 then (if gb w = true then nI w else -1) else cx_fst gb w
def sp_ch (f : Nat → Int32) : Nat → Int32
  | 0 => nI 0
  | t + 1 => sp_ch f t + (if f (t + 1) = f t then nI 0 else nI 1)
theorem sp_ch_c {f g : Nat → Int32} : ∀ {T : Nat}, (∀ t, t ≤ T → f t = g t) → sp_ch f T = sp_ch g T
  | 0, _ => rfl
  | T + 1, h => by
    unfold sp_ch
    rw [sp_ch_c (fun t ht => h t (by omega)), h T (by omega), h (T + 1) (by omega)]
theorem sp_all_nI : ∀ m, m < 7 → sp_all m = nI (2 ^ m - 1) := by decide +kernel
theorem ct_fst {I0 : aw_MI} {c n m w T : Nat} {x : Int32} {f : Nat → Int32} {t : Nat} (ht : t < T + 1) (hf : f t = cx_fst (cx_gb I0 c n m x (nI t)) w) (hok : cx_ok I0 c n m w) : ct_F I0 c n m w x f (T + 1) t = cx_fst (cx_gb I0 c n m x (nI t)) (w + 1) := by
  show _ = if _ then _ else _
  rw [← hf]
  unfold ct_F
  by_cases e : f t = -1
  · rw [if_pos e]
    by_cases e2 : cx_fit I0 c n m x (nI t) w = 0
    · rw [if_neg (fun q => q.2.2 e2), if_neg (cx_gb_f (Or.inr e2)), e]
    · rw [if_pos ⟨ht, e, e2⟩, if_pos (cx_gb_t hok e2)]
  · rw [if_neg (fun q => e q.2.1), if_neg e]
theorem ct_fst0 {I0 : aw_MI} {c n m w : Nat} {x t : Int32} (hok : ¬ cx_ok I0 c n m w) : cx_fst (cx_gb I0 c n m x t) (w + 1) = cx_fst (cx_gb I0 c n m x t) w := by
  show (if _ then _ else _) = _
  rw [if_neg (cx_gb_f (Or.inl hok))]
  by_cases e : cx_fst (cx_gb I0 c n m x t) w = -1
  · rw [if_pos e, e]
  · rw [if_neg e]
theorem lX6_changesTo2 {G : aw_G} {d : Nat} {Ω : aw_O} {I : aw_MI} {J : aw_MJ} {x : Int32} {Q : Int32 → aw_O → aw_MI → aw_MJ → Prop} {s c T : Nat} {g : Nat → Int32} (hS : aw_solver Ω s c) (hT : T ≤ 40) (hg : ∀ t, t ≤ T → I (s + 16) t = g t) (hQ : Q (sp_ch g T) Ω I J) : ∀ (z i : Nat), i ≤ T → T - i < z → AW G MX6_changesTo (aw_nx Ω) d 0 0 (aw_QI Q) Ω I J 0 0 [.ref (aw_ad G s), .int (nI T), .int x, .int (sp_ch g i), .int (nI (i + 1))] 49 [] := by
  intro z
  induction z with
  | zero =>
    intro i h0 hz
    exact absurd hz (by omega)
  | succ z ih =>
    intro i h0 hz
    refine aw_iload dX6_changesTo_49 rfl ?_
    refine aw_iload_n dX6_changesTo_51 rfl ?_
    refine aw_gtN (t := 95) dX6_changesTo_52 (by decide) (by omega) (by omega) (fun h1 => ?_) (fun h1 => ?_)
    · skip
      refine aw_iload_n dX6_changesTo_95 rfl ?_
      have e1 : i = T := by omega
      subst e1
      exact aw_iret dX6_changesTo_96 rfl (hQ) (Nat.zero_le _) (Nat.zero_le _)
    · skip
      refine aw_iload dX6_changesTo_55 rfl ?_
      refine aw_bipush (v := nI 40) dX6_changesTo_57 (by decide) ?_
      refine aw_gtN (t := 95) dX6_changesTo_59 (by decide) (by omega) (by omega) (fun h2 => ?_) (fun h2 => ?_)
      · skip
        exact absurd h2 (by omega)
      · skip
        refine aw_iload_n dX6_changesTo_62 rfl ?_
        refine aw_aload_n dX6_changesTo_63 rfl ?_
        refine aw_getR dX6_changesTo_64 flX6_33 hS.o hS.p9 ?_
        refine aw_iload dX6_changesTo_67 rfl ?_
        refine aw_ialdv (v := g (i + 1)) dX6_changesTo_69 hS.s9 rfl (by omega) (hg (i + 1) (by omega)) ?_
        refine aw_pc (pc2 := 70) rfl ?_
        refine aw_aload_n dX6_changesTo_70 rfl ?_
        refine aw_getR dX6_changesTo_71 flX6_33 hS.o hS.p9 ?_
        refine aw_iload dX6_changesTo_74 rfl ?_
        refine aw_iconst (v := nI 1) dX6_changesTo_76 (by decide) ?_
        refine aw_isubN dX6_changesTo_77 (by omega) ?_
        refine aw_ialdv (v := g i) dX6_changesTo_78 hS.s9 rfl (by omega) (hg i (by omega)) ?_
        refine aw_pc (pc2 := 79) rfl ?_
        refine aw_icmp_eq (t := 86) dX6_changesTo_79 (by decide) (fun h3 => ?_) (fun h3 => ?_)
        · skip
          refine aw_iconst (v := nI 0) dX6_changesTo_86 (by decide) ?_
          refine aw_iadd dX6_changesTo_87 ?_
          refine aw_toI (show _ = sp_ch g (i + 1) from by show _ = sp_ch g i + _; first | rw [if_pos h3] | rw [if_neg h3]) ?_
          refine aw_istore_n dX6_changesTo_88 (by decide) ?_
          refine aw_lv (lv2 := [.ref _, .int _, .int _, .int _, .int _]) rfl ?_
          refine aw_iincN dX6_changesTo_89 rfl (by decide) ?_
          refine aw_lv (lv2 := [.ref _, .int _, .int _, .int _, .int _]) rfl ?_
          refine aw_goto (t := 49) dX6_changesTo_92 (by decide) ?_
          exact ih (i + 1) (by omega) (by omega)
        · skip
          refine aw_iconst (v := nI 1) dX6_changesTo_82 (by decide) ?_
          refine aw_goto (t := 87) dX6_changesTo_83 (by decide) ?_
          refine aw_iadd dX6_changesTo_87 ?_
          refine aw_toI (show _ = sp_ch g (i + 1) from by show _ = sp_ch g i + _; first | rw [if_pos h3] | rw [if_neg h3]) ?_
          refine aw_istore_n dX6_changesTo_88 (by decide) ?_
          refine aw_lv (lv2 := [.ref _, .int _, .int _, .int _, .int _]) rfl ?_
          refine aw_iincN dX6_changesTo_89 rfl (by decide) ?_
          refine aw_lv (lv2 := [.ref _, .int _, .int _, .int _, .int _]) rfl ?_
          refine aw_goto (t := 49) dX6_changesTo_92 (by decide) ?_
          exact ih (i + 1) (by omega) (by omega)
theorem cx_b_c {s c n m w : Nat} {I I' : aw_MI} (h : ∀ a, a < s → I' a = I a) (hc : c + 6 < s) : cx_b I' c n m w = cx_b I c n m w := by
  simp only [cx_b, cx_S_c h hc]
theorem cx_fit_c {s c n m w : Nat} {x t : Int32} {I I' : aw_MI} (h : ∀ a, a < s → I' a = I a) (hc : c + 6 < s) : cx_fit I' c n m x t w = cx_fit I c n m x t w := by
  have e1 : cx_v I' c n m w t = cx_v I c n m w t := by simp only [cx_v, cx_S_c h hc]
  have e2 : cx_y I' c n m w t = cx_y I c n m w t := by funext l; simp only [cx_y, e1]
  have e3 : cx_sl I' c n m w t = cx_sl I c n m w t := by funext l; simp only [cx_sl, e1, sp_bd_c h hc, sp_rw_c h hc, cx_b_c h hc]
  simp only [cx_fit, e2, e3, h (c + 3) (by omega)]
theorem ct_gbc {s c n m : Nat} {x t : Int32} {I I' : aw_MI} (h : ∀ a, a < s → I' a = I a) (hc : c + 6 < s) : cx_gb I' c n m x t = cx_gb I c n m x t := by
  funext w
  simp only [cx_gb, cx_M_c h hc, cx_fit_c h hc]
theorem lX6_changesTo1 {G : aw_G} {d : Nat} {Ω : aw_O}  {Q : Int32 → aw_O → aw_MI → aw_MJ → Prop} {s c n m T : Nat} {I0 : aw_MI} {J0 : aw_MJ} (hS : aw_solver Ω s c) (hn : I0 c 0 = nI n) (hn3 : n ≤ 3) (hm : I0 c 2 = nI m) (hm6 : m ≤ 6) (hcs : c + 6 < s) (hT : T ≤ 40) (hd : 5 ≤ d) (hQ : ∀ I' J', (∀ a, a < s ∨ s + 17 ≤ a → I' a = I0 a) → sv_J s J0 J' → Q (sp_ch (fun t => cx_fst (cx_gb I0 c n m (nI (2 ^ m - 1)) (nI t)) (2 ^ m)) T) Ω I' J') : ∀ (z w : Nat) (I : aw_MI) (J : aw_MJ), z + w = 2 ^ m → (∀ a, a < s ∨ s + 17 ≤ a → I a = I0 a) → sv_J s J0 J → (∀ t, t ≤ T → I (s + 16) t = cx_fst (cx_gb I0 c n m (nI (2 ^ m - 1)) (nI t)) w) → AW G MX6_changesTo (aw_nx Ω) d 0 0 (aw_QI Q) Ω I J 0 0 [.ref (aw_ad G s), .int (nI T), .int (nI (2 ^ m - 1)), .int (nI w), .null] 18 [] := by
  intro z
  induction z with
  | zero =>
    intro w I J h0 fI fJ hF
    have h64 : 2 ^ m ≤ 2 ^ 6 := Nat.pow_le_pow_right (by decide) hm6
    have hpos : 0 < 2 ^ m := Nat.pos_of_ne_zero (by simp)
    have e1 : w = 2 ^ m := by omega
    subst e1
    refine aw_iload_n dX6_changesTo_18 rfl ?_
    refine aw_iload_n dX6_changesTo_19 rfl ?_
    refine aw_gtN (t := 44) dX6_changesTo_20 (by decide) (by omega) (by omega) (fun h1 => ?_) (fun h1 => absurd h1 (by omega))
    refine aw_iconst (v := nI 0) dX6_changesTo_44 (by decide) ?_
    refine aw_istore_n dX6_changesTo_45 (by decide) ?_
    refine aw_iconst (v := nI 1) dX6_changesTo_46 (by decide) ?_
    refine aw_istore dX6_changesTo_47 (by decide) ?_
    exact lX6_changesTo2 (g := fun t => cx_fst (cx_gb I0 c n m (nI (2 ^ m - 1)) (nI t)) (2 ^ m)) hS hT hF (hQ I J fI fJ) (T + 1) 0 (by omega) (by omega)
  | succ z ih =>
    intro w I J h0 fI fJ hF
    have h64 : 2 ^ m ≤ 2 ^ 6 := Nat.pow_le_pow_right (by decide) hm6
    have hn1 : I c 0 = nI n := by rw [fI c (by omega)]; exact hn
    have hm1 : I c 2 = nI m := by rw [fI c (by omega)]; exact hm
    have hlow : ∀ a, a < s → I a = I0 a := fun a ha => fI a (Or.inl ha)
    refine aw_iload_n dX6_changesTo_18 rfl ?_
    refine aw_iload_n dX6_changesTo_19 rfl ?_
    refine aw_gtN (t := 44) dX6_changesTo_20 (by decide) (by omega) (by omega) (fun h1 => ?_) (fun h1 => ?_)
    · skip
      exact absurd h1 (by omega)
    · skip
      refine aw_aload_n dX6_changesTo_23 rfl ?_
      refine aw_iload_n dX6_changesTo_24 rfl ?_
      refine aw_cvI (As := [_]) (d' := d - 1) dX6_changesTo_25 lkX6_40 hS.o (by omega) rfl rfl (Nat.le_of_ble_eq_true rfl) ⟨Nat.le_refl _, Nat.le_refl _⟩ (tX6_meet hS hn1 hn3 hm1 hm6 hcs (by omega) (by omega) ?_ ?_)
      · skip
        intro I1 J1 a1 b1 k1
        rw [cx_ok_c hlow hcs] at k1
        refine aw_if_eq (t := 38) dX6_changesTo_28 (by decide) (fun h2 => ?_) (fun h2 => absurd h2 (by decide))
        refine aw_iincN dX6_changesTo_38 rfl (by decide) ?_
        refine aw_lv (lv2 := [.ref _, .int _, .int _, .int _, .null]) rfl ?_
        refine aw_goto (t := 18) dX6_changesTo_41 (by decide) ?_
        refine ih (w + 1) I1 J1 (by omega) (fun a ha => (a1.1 a ha).trans (fI a ha)) (fJ.tr b1) (fun t ht => ?_)
        rw [show I1 (s + 16) = I (s + 16) from a1.2.2.1, hF t ht, ct_fst0 k1]
      · skip
        intro I1 J1 a1 b1 k1 w1 mb1 r1 d1
        rw [cx_ok_c hlow hcs] at k1
        rw [cx_S_c hlow hcs] at d1
        simp only [cx_S_c hlow hcs] at r1
        have hlo1 : ∀ a, a < s ∨ s + 17 ≤ a → I1 a = I0 a := fun a ha => (a1.1 a ha).trans (fI a ha)
        have hlow1 : ∀ a, a < s → I1 a = I0 a := fun a ha => hlo1 a (Or.inl ha)
        refine aw_if_eq (t := 38) dX6_changesTo_28 (by decide) (fun h3 => absurd h3 (by decide)) (fun h3 => ?_)
        refine aw_aload_n dX6_changesTo_31 rfl ?_
        refine aw_iload_n dX6_changesTo_32 rfl ?_
        refine aw_iload_n dX6_changesTo_33 rfl ?_
        refine aw_iload_n dX6_changesTo_34 rfl ?_
        refine aw_pc (pc2 := 35) rfl ?_
        refine aw_cvV (As := [_, _, _]) (d' := d - 1) dX6_changesTo_35 lkX6_155 hS.o (by omega) rfl rfl (Nat.le_of_ble_eq_true rfl) ⟨Nat.le_refl _, Nat.le_refl _⟩ (tX6_claimTides (w := w) (T := T) (f := I1 (s + 16)) hS (by rw [hlo1 c (by omega)]; exact hn) hn3 (by rw [hlo1 c (by omega)]; exact hm) hm6 hcs (by omega) k1.1 hT (by omega) ⟨fun _ _ => rfl, w1, fun j hj => ⟨mb1 j (by omega), Nat.lt_of_lt_of_le (sp_mb_lt (by show j < cx_n w m; omega)) hm6⟩, fun r k h8 h9 => by rw [cx_S_c hlow1 hcs]; exact r1 r k h8 h9, by rw [cx_S_c hlow1 hcs]; exact d1⟩ (fun _ _ => rfl) ?_)
        · skip
          intro I2 J2 a2 b2 f2
          refine aw_iincN dX6_changesTo_38 rfl (by decide) ?_
          refine aw_lv (lv2 := [.ref _, .int _, .int _, .int _, .null]) rfl ?_
          refine aw_goto (t := 18) dX6_changesTo_41 (by decide) ?_
          refine ih (w + 1) I2 J2 (by omega) (fun a ha => (a2 a ha).trans (hlo1 a ha)) ((fJ.tr b1).tr b2) (fun t ht => ?_)
          rw [f2 t (by omega)]
          have q9 := ct_fst (I0 := I1) (c := c) (n := n) (m := m) (w := w) (T := T) (x := nI (2 ^ m - 1)) (f := I1 (s + 16)) (t := t) (by omega) (by rw [show I1 (s + 16) = I (s + 16) from a1.2.2.1, hF t ht, ct_gbc hlow1 hcs]) (by rw [cx_ok_c hlow1 hcs]; exact k1)
          rw [q9, ct_gbc hlow1 hcs]
theorem tX6_changesTo {G : aw_G} {d : Nat} {Ω : aw_O} {I : aw_MI} {J : aw_MJ} {Q : Int32 → aw_O → aw_MI → aw_MJ → Prop} {s c n m T : Nat} (hS : aw_solver Ω s c) (hn : I c 0 = nI n) (hn3 : n ≤ 3) (hm : I c 2 = nI m) (hm6 : m ≤ 6) (hcs : c + 6 < s) (hT : T ≤ 40) (hd : 5 ≤ d) (hQ : ∀ I' J', (∀ a, a < s ∨ s + 17 ≤ a → I' a = I a) → sv_J s J J' → Q (sp_ch (fun t => cx_fst (cx_gb I c n m (nI (2 ^ m - 1)) (nI t)) (2 ^ m)) T) Ω I' J') : aw_Call G MX6_changesTo d 0 0 [.ref (aw_ad G s), .int (nI T)] Ω I J (aw_QI Q) := by
  refine aw_enter (by decide +kernel) rfl (Nat.le_of_ble_eq_true rfl) ?_
  show AW G MX6_changesTo (aw_nx Ω) d 0 0 (aw_QI Q) Ω I J 0 0 [.ref (aw_ad G s), .int (nI T), .null, .null, .null] 0 []
  refine aw_aload_n dX6_changesTo_0 rfl ?_
  refine aw_getR dX6_changesTo_1 flX6_36 hS.o hS.p0 ?_
  refine aw_cvI (As := []) (d' := d - 1) dX6_changesTo_4 lkX6_145 hS.q0.o (by omega) rfl rfl (Nat.le_of_ble_eq_true rfl) ⟨Nat.le_refl _, Nat.le_refl _⟩ (tX1_allLines hS.q0 hm ?_)
  refine aw_toI (sp_all_nI m (by omega)) ?_
  refine aw_istore_n dX6_changesTo_7 (by decide) ?_
  refine aw_lv (lv2 := [.ref _, .int _, .int _, .null, .null]) rfl ?_
  refine aw_aload_n dX6_changesTo_8 rfl ?_
  refine aw_pc (pc2 := 9) rfl ?_
  refine aw_getR dX6_changesTo_9 flX6_33 hS.o hS.p9 ?_
  refine aw_iconst (v := -1) dX6_changesTo_12 (by decide) ?_
  refine aw_csV (As := [_, _]) (d' := d - 1) dX6_changesTo_13 lkX6_152 (by omega) rfl rfl (Nat.le_of_ble_eq_true rfl) ⟨Nat.le_refl _, Nat.le_refl _⟩ (tJ7_fill_53178 hS.s9 (by decide) ?_)
  refine aw_iconst (v := nI 0) dX6_changesTo_16 (by decide) ?_
  refine aw_istore_n dX6_changesTo_17 (by decide) ?_
  refine aw_lv (lv2 := [.ref _, .int _, .int _, .int _, .null]) rfl ?_
  exact lX6_changesTo1 (I0 := I) (J0 := J) hS hn hn3 hm hm6 hcs hT hd hQ (2 ^ m) 0 _ J (by omega) (fun a ha => aw_fill_off I _ (by omega)) sv_J.rf (fun t ht => by unfold aw_fill; rw [if_pos ⟨rfl, by omega⟩]; rfl)

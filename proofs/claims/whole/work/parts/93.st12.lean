/-! REACH -/
def ri (p : Int64 × Int64) (q : rb_S) : Prop := (p.2 = 0 ∧ q.1 = 0) ∨ (¬ q.1 = 0 ∧ 0 < p.2 ∧ q.2 = p ∧ p.1.toInt.natAbs < 2 ^ 62)
theorem ri_lim {p : Int64 × Int64} {q : rb_S} {v u : Int64} (h : ri p q) (hv : v.toInt.natAbs < 2 ^ 62) (hu : ¬ u = Int64.minValue) : ri (sp_lim p v u) (rb_lim q v u) := by
  unfold sp_lim rb_lim
  by_cases c : u < 0
  · rw [if_pos c, if_pos c]
    have hpos := neg_pos64 c hu
    rcases h with ⟨h1, h2⟩ | ⟨h1, h2, h3, h4⟩
    · rw [if_pos h1, if_pos h2]
      exact Or.inr ⟨(by decide : ¬ nI 1 = (0 : Int32)), hpos, rfl, hv⟩
    · rw [if_neg (pos64ne h2), if_neg h1, h3, less_eq hpos h2]
      by_cases c2 : sp_lesR 140 v (-u) p.1 p.2 = 0
      · rw [if_pos c2, if_pos c2]
        exact Or.inr ⟨h1, h2, h3, h4⟩
      · rw [if_neg c2, if_neg c2]
        exact Or.inr ⟨(by decide : ¬ nI 1 = (0 : Int32)), hpos, rfl, hv⟩
  · rw [if_neg c, if_neg c]
    exact h
theorem ri_R {kd : Nat → Int32} {sl mv y z : Nat → Int64} {a0 a1 b1 : Int64} : ∀ m, (∀ l, l < m → (sl l).toInt.natAbs < 2 ^ 62 ∧ (mv l).toInt.natAbs < 2 ^ 62 ∧ (y l).toInt.natAbs < 2 ^ 62 ∧ (z l).toInt.natAbs < 2 ^ 62 ∧ (¬ sp_on (kd l) = 0 → sl l = 0)) → ri (sr_R kd sl mv y z a0 m) (rr_R kd sl mv y z a1 b1 m)
  | 0, _ => Or.inl ⟨rfl, rfl⟩
  | m + 1, h => by
    have ih := ri_R (kd := kd) (sl := sl) (mv := mv) (y := y) (z := z) (a0 := a0) (a1 := a1) (b1 := b1) m (fun l hl => h l (by omega))
    obtain ⟨h1, h2, h3, h4, h5⟩ := h m (by omega)
    have mn : ∀ x : Int64, x.toInt.natAbs < 2 ^ 62 → ¬ x = Int64.minValue := fun x hx e => by
      have e63 : Int64.minValue.toInt = -2 ^ 63 := rfl
      rw [e, e63] at hx
      omega
    unfold sr_R rr_R
    by_cases c : sp_on (kd m) = 0
    · rw [if_pos c, if_pos c]
      exact ri_lim (ri_lim ih h1 (mn _ h2)) h3 (mn _ h4)
    · rw [if_neg c, if_neg c, h5 c]
      have n0 : (-(0 : Int64)) = 0 := by decide
      have z0 : (0 : Int64).toInt = 0 := rfl
      rw [n0]
      by_cases c2 : mv m < 0
      · have e1 : -sp_abs (mv m) = mv m := by
          unfold sp_abs
          rw [if_pos c2]
          grind
        have e2 : ¬ -mv m < 0 := by
          rw [lt0_64] at c2 ⊢
          rw [neg_64 (by omega)]
          omega
        rw [e1]
        have e3 : ∀ q v, rb_lim q v (-mv m) = q := fun q v => by
          unfold rb_lim
          rw [if_neg e2]
        rw [e3]
        exact ri_lim ih (by rw [z0]; decide) (mn _ h2)
      · have e1 : sp_abs (mv m) = mv m := by
          unfold sp_abs
          rw [if_neg c2]
        have e3 : ∀ q v, rb_lim q v (mv m) = q := fun q v => by
          unfold rb_lim
          rw [if_neg c2]
        rw [e1, e3]
        refine ri_lim ih (by rw [z0]; decide) (mn _ ?_)
        rw [neg_64 (by omega)]
        omega
theorem all_bit : ∀ m, m < 7 → ∀ l, l < m → ¬ nI (2 ^ m - 1) >>> (nI l &&& 31) &&& nI 1 = 0 := by decide +kernel
theorem ag.R {I I' : aw_MI} {n m : Nat} (a : ag I I' 1 n m) (h : rg I' n m) (hp : ¬ rp_ac (I' 66) n = 0) {w t : Nat} (ht : t ≤ 40) (hg : rx_gb I' n m (nI (2 ^ m - 1)) (nI t) w = true) (a0 a1 b1 : Int64) : ri (cx_R I 1 n m w (nI t) a0) (rr_X I' n m w (nI t) a1 b1 m) := by
  have m6 := h.m6
  obtain ⟨ho, g1, g2⟩ := h.gbI ht hg
  have e : cx_R I 1 n m w (nI t) a0 = sr_R (fun l => I' 68 (6 * l)) (rx_sl I' n m w (nI t)) (rx_mv I' n m w) (rx_y I' n m w (nI t)) (rx_z I' n m w) a0 m :=
    sr_R_c (fun l hl => ⟨a.kd l hl, a.slx h hp ho ht hl, a.mv h hp ho hl, a.y h hp ho ht l, a.z h hp ho l⟩)
  rw [e]
  refine ri_R m (fun l hl => ?_)
  have s1 := h.slI ho.1 ht hl
  have s2 := h.mvI ho.1 hl
  have s3 := h.yI ho.1 ht l
  have s4 := h.zI ho.1 l
  refine ⟨by omega, by omega, by omega, by omega, fun c => ?_⟩
  have e2 : I' 68 (6 * l) = nI 2 := Classical.byContradiction (fun q => c (on_ex.mpr q))
  rw [eq0_64, s1.1]
  exact (g1 l hl (all_bit m (by omega) l hl)).1 e2
theorem st_reach {G : aw_G} {d : Nat} {Ω : aw_O} {I : aw_MI} {J : aw_MJ} {Q : Int64 → aw_O → aw_MI → aw_MJ → Prop} {x : Int32} (R : Rel Ω I J) (hd : 160 ≤ d) (hQ : ∀ z I1 J1, pr_L G MX8_reach d 0 0 [.ref (aw_ad G 65), .int x] z Ω I1 J1 → Q z Ω I1 J1) : aw_Call G MX7_reach d 0 0 [.ref (aw_ad G 0), .int x] Ω I J (aw_QL Q) := by
  obtain ⟨n, m, t, ⟨hM, hW, hx⟩, ⟨n1, n3, m6, t40⟩, ⟨hn, ht, hm⟩, hF⟩ := R.f
  have h64 : 2 ^ m ≤ 2 ^ 6 := Nat.pow_le_pow_right (by decide) m6
  have hv : ∀ I1, rg I1 n m → ∀ w, w < 2 ^ m → ¬ rp_ac (I1 66) n = 0 → rx_gb I1 n m (nI (2 ^ m - 1)) (I1 65 3) w = true → ∀ l, l < m → ¬ rx_mv I1 n m w l = Int64.minValue ∧ ¬ rx_z I1 n m w l = Int64.minValue := fun I1 r w _ _ g l hl => by
    have ho := (gb_ok g).1
    have e63 : Int64.minValue.toInt = -2 ^ 63 := rfl
    have s2 := r.mvI ho.1 hl
    have s4 := r.zI ho.1 l
    refine ⟨fun e => ?_, fun e => ?_⟩
    · rw [e, e63] at s2; omega
    · rw [e, e63] at s4; omega
  refine tX7_reach hM hn n3 hm m6 ht (by omega) ?_ ?_ ?_ ?_ ?_
  · intro cB
    obtain ⟨⟨hn8, ht8, hm8⟩, a, r⟩ := hF I (vI.r I)
    refine hQ _ _ _ (fun Q' k => tX8_reach hW hn8 n3 hm8 m6 hd (hv I r) ?_ ?_ ?_ ?_ ?_)
    · intro _; exact k _ _ _ R (Nat.le_add_right _ _)
    · intro _ _ e; exact absurd cB e
    · intro _ _ e; exact absurd cB e
    · intro _ _ _ _ _ e; exact absurd cB e
    · intro _ _ _ _ _ e; exact absurd cB e
  · intro cB cS
    obtain ⟨⟨hn8, ht8, hm8⟩, a, r⟩ := hF I (vI.r I)
    have eP : sp_hl (I 2) 1 n = rp_ac (I 66) n := a.hl r
    refine hQ _ _ _ (fun Q' k => tX8_reach hW hn8 n3 hm8 m6 hd (hv I r) ?_ ?_ ?_ ?_ ?_)
    · intro e; exact absurd e cB
    · intro _ _ _ _ mI mJ; exact k _ _ _ (R.v (mr_v mI) (mr_w mJ)) (Nat.le_add_right _ _)
    · intro _ _ _ e; exact absurd (by rw [← eP]; exact cS) e
    · intro _ _ _ _ _ _ e; exact absurd (by rw [← eP]; exact cS) e
    · intro _ _ _ _ _ _ e; exact absurd (by rw [← eP]; exact cS) e
  · intro I1 J1 cB cS cI cJ cR
    obtain ⟨⟨hn8, ht8, hm8⟩, a, r⟩ := hF I1 (sv_v22 cI)
    have R1 : Rel Ω I1 J1 := R.v (sv_v22 cI) (sv_w22 cJ)
    have eP : sp_hl (I 2) 1 n = rp_ac (I1 66) n := a.hl r
    have hp : ¬ rp_ac (I1 66) n = 0 := by rw [← eP]; exact cS
    have eR : cx_res I n m t (2 ^ m - 1) = rx_res I1 n m (2 ^ m - 1) := by
      unfold cx_res rx_res
      rw [ht8]
      exact a.find r hp t40 _ _ _ _
    rw [eR] at cR
    refine hQ _ _ _ (fun Q' k => tX8_reach hW hn8 n3 hm8 m6 hd (hv I1 r) ?_ ?_ ?_ ?_ ?_)
    · intro e; exact absurd e cB
    · intro _ _ _ e; exact absurd e hp
    · intro _ _ _ _ mI mJ _; exact k _ _ _ (R1.v (mr_v mI) (mr_w mJ)) (Nat.le_add_right _ _)
    · intro w _ _ _ _ _ _ hw _ _ _ mR _; rw [cR] at mR; exact absurd mR.symm (nI_m1n (by omega))
    · intro w _ _ _ _ _ _ hw _ _ _ mR _; rw [cR] at mR; exact absurd mR.symm (nI_m1n (by omega))
  · intro w a0 I1 J1 cB cS cw cI cJ cG cR cZ
    obtain ⟨⟨hn8, ht8, hm8⟩, a, r⟩ := hF I1 (sv_v22 cI)
    have R1 : Rel Ω I1 J1 := R.v (sv_v22 cI) (sv_w22 cJ)
    have eP : sp_hl (I 2) 1 n = rp_ac (I1 66) n := a.hl r
    have hp : ¬ rp_ac (I1 66) n = 0 := by rw [← eP]; exact cS
    have eR : cx_res I n m t (2 ^ m - 1) = rx_res I1 n m (2 ^ m - 1) := by
      unfold cx_res rx_res
      rw [ht8]
      exact a.find r hp t40 _ _ _ _
    rw [eR] at cR
    refine hQ _ _ _ (fun Q' k => tX8_reach hW hn8 n3 hm8 m6 hd (hv I1 r) ?_ ?_ ?_ ?_ ?_)
    · intro e; exact absurd e cB
    · intro _ _ _ e; exact absurd e hp
    · intro _ _ _ _ _ _ mR; rw [cR] at mR; exact absurd mR (nI_m1n (by omega))
    · intro w' _ _ _ _ _ _ _ mI mJ _ _ _; exact k _ _ _ (R1.v (rr_v mI) (rr_w mJ)) (Nat.le_add_right _ _)
    · intro w' a1 b1 _ _ _ _ mw _ _ mG mR mZ
      have ew : w' = w := (nI_eq (by omega) (by omega)).mp (by rw [← mR, ← cR])
      subst ew
      rw [ht8] at mG mZ
      rcases a.R r hp t40 mG a0 a1 b1 with q | q
      · exact absurd q.2 mZ
      · exact absurd cZ (pos64ne q.2.1)
  · intro w a0 I1 J1 cB cS cw cI cJ cG cR cZ
    obtain ⟨⟨hn8, ht8, hm8⟩, a, r⟩ := hF I1 (sv_v22 cI)
    have R1 : Rel Ω I1 J1 := R.v (sv_v22 cI) (sv_w22 cJ)
    have eP : sp_hl (I 2) 1 n = rp_ac (I1 66) n := a.hl r
    have hp : ¬ rp_ac (I1 66) n = 0 := by rw [← eP]; exact cS
    have eR : cx_res I n m t (2 ^ m - 1) = rx_res I1 n m (2 ^ m - 1) := by
      unfold cx_res rx_res
      rw [ht8]
      exact a.find r hp t40 _ _ _ _
    rw [eR] at cR
    refine hQ _ _ _ (fun Q' k => tX8_reach hW hn8 n3 hm8 m6 hd (hv I1 r) ?_ ?_ ?_ ?_ ?_)
    · intro e; exact absurd e cB
    · intro _ _ _ e; exact absurd e hp
    · intro _ _ _ _ _ _ mR; rw [cR] at mR; exact absurd mR (nI_m1n (by omega))
    · intro w' a1 b1 _ _ _ _ mw _ _ mG mR mZ
      have ew : w' = w := (nI_eq (by omega) (by omega)).mp (by rw [← mR, ← cR])
      subst ew
      rw [ht8] at mG mZ
      rcases a.R r hp t40 mG a0 a1 b1 with q | q
      · exact absurd q.1 cZ
      · exact absurd mZ q.1
    · intro w' a1 b1 _ _ _ _ mw mI mJ mG mR mZ
      have ew : w' = w := (nI_eq (by omega) (by omega)).mp (by rw [← mR, ← cR])
      subst ew
      rw [ht8] at mG mZ ⊢
      rcases a.R r hp t40 mG a0 a1 b1 with q | ⟨q1, q2, q3, q4⟩
      · exact absurd q.1 cZ
      · rw [q3, ← told_lw (by omega) (pos64 q2)]
        exact k _ _ _ (R1.v (rr_v mI) (rr_w mJ)) (Nat.le_add_right _ _)

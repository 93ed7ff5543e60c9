/-! THE WALK, set by set -/
theorem gb0 {I : aw_MI} {n m : Nat} (h : rg I n m) (hp : ¬ rp_ac (I 66) n = 0) (t : Int32) : rx_gb I n m (nI 0) t 0 = true := by
  have m6 := h.m6
  refine rx_gb_t (h.ok0 hp) ?_
  have hb : ∀ l, l < 6 → nI 0 >>> (nI l &&& 31) &&& nI 1 = 0 := by decide +kernel
  have e : ∀ z k, k + z = m → sp_al (rp_rb (fun l => I 68 (6 * l)) (rx_y I n m 0 t) (rx_sl I n m 0 t) (nI 0)) k z = nI 1 := by
    intro z
    induction z with
    | zero => intro _ _; rfl
    | succ z ih =>
      intro k hk
      unfold sp_al
      rw [if_pos ?_]
      · exact ih (k + 1) (by omega)
      · unfold rp_rb
        rw [decide_eq_true_eq]
        refine ⟨Or.inl (hb k (by omega)), Or.inr ?_⟩
        unfold rx_y
        rw [cx_n0 m (by omega)]
        show ¬ (0 : Int64) < 0
        decide
  unfold rx_fit
  rw [e m 0 (by omega)]
  decide
theorem bit6 : ∀ b0 b1 b2 b3 b4 b5 : Bool, (b0.toNat + 2 * b1.toNat + 4 * b2.toNat + 8 * b3.toNat + 16 * b4.toNat + 32 * b5.toNat < 64) ∧ (b0.toNat + 2 * b1.toNat + 4 * b2.toNat + 8 * b3.toNat + 16 * b4.toNat + 32 * b5.toNat).testBit 0 = b0 ∧ (b0.toNat + 2 * b1.toNat + 4 * b2.toNat + 8 * b3.toNat + 16 * b4.toNat + 32 * b5.toNat).testBit 1 = b1 ∧ (b0.toNat + 2 * b1.toNat + 4 * b2.toNat + 8 * b3.toNat + 16 * b4.toNat + 32 * b5.toNat).testBit 2 = b2 ∧ (b0.toNat + 2 * b1.toNat + 4 * b2.toNat + 8 * b3.toNat + 16 * b4.toNat + 32 * b5.toNat).testBit 3 = b3 ∧ (b0.toNat + 2 * b1.toNat + 4 * b2.toNat + 8 * b3.toNat + 16 * b4.toNat + 32 * b5.toNat).testBit 4 = b4 ∧ (b0.toNat + 2 * b1.toNat + 4 * b2.toNat + 8 * b3.toNat + 16 * b4.toNat + 32 * b5.toNat).testBit 5 = b5 := by decide +kernel
theorem bits_of (f : Nat → Bool) : ∃ h, h < 64 ∧ ∀ l, l < 6 → f l = h.testBit l := by
  obtain ⟨h, e0, e1, e2, e3, e4, e5⟩ := bit6 (f 0) (f 1) (f 2) (f 3) (f 4) (f 5)
  refine ⟨_, h, fun l hl => ?_⟩
  rcases (by omega : l = 0 ∨ l = 1 ∨ l = 2 ∨ l = 3 ∨ l = 4 ∨ l = 5) with e | e | e | e | e | e <;> subst e
  · exact e0.symm
  · exact e1.symm
  · exact e2.symm
  · exact e3.symm
  · exact e4.symm
  · exact e5.symm
theorem lo_dec : ∀ m, m < 7 → ∀ h, h < 64 → (sp_all m &&& (sp_or (fun l => h.testBit l) m ^^^ (-1)) = 0 ↔ rw_f (fun l => h.testBit l) 0 m = m) ∧ (rw_f (fun l => h.testBit l) 0 m < m → (sp_all m &&& (sp_or (fun l => h.testBit l) m ^^^ (-1))) &&& -(sp_all m &&& (sp_or (fun l => h.testBit l) m ^^^ (-1))) = nI (2 ^ rw_f (fun l => h.testBit l) 0 m)) := by decide +kernel
theorem rw_f_c {f g : Nat → Bool} : ∀ {z l m : Nat}, l + z = m → (∀ i, i < m → f i = g i) → rw_f f l z = rw_f g l z
  | 0, _, _, _, _ => rfl
  | z + 1, l, m, h, e => by
    unfold rw_f
    rw [e l (by omega), rw_f_c (m := m) (by omega) e]
theorem lo_f {f : Nat → Bool} {m : Nat} (hm : m ≤ 6) : (sp_all m &&& (sp_or f m ^^^ (-1)) = 0 ↔ rw_f f 0 m = m) ∧ (rw_f f 0 m < m → (sp_all m &&& (sp_or f m ^^^ (-1))) &&& -(sp_all m &&& (sp_or f m ^^^ (-1))) = nI (2 ^ rw_f f 0 m)) := by
  obtain ⟨h, h1, h2⟩ := bits_of f
  rw [sp_or_c (g := fun l => h.testBit l) (fun l hl => h2 l (by omega)), rw_f_c (g := fun l => h.testBit l) (m := m) (by omega) (fun l hl => h2 l (by omega))]
  exact lo_dec m (by omega) h h1
theorem or_dec : ∀ w, w < 64 → ∀ l, l < 6 → nI w ||| nI (2 ^ l) = nI (w ||| 2 ^ l) := by decide +kernel
theorem ag.hbf {I I' : aw_MI} {n m : Nat} (a : ag I I' 1 n m) (h : rg I' n m) (hp : ¬ rp_ac (I' 66) n = 0) {w t : Nat} (ho : rx_ok I' n m w) (ht : t ≤ 40) : cw_lo I 1 n m (nI t) w = sp_all m &&& (sp_or (rx_hb I' n m (nI t) w) m ^^^ (-1)) := by
  unfold cw_lo cw_h
  rw [sp_or_c (g := rx_hb I' n m (nI t) w) (fun l hl => ?_)]
  unfold rx_hb
  rw [a.kd l hl, a.slx h hp ho ht hl]
theorem ag.nx {I I' : aw_MI} {n m : Nat} (a : ag I I' 1 n m) (h : rg I' n m) (hp : ¬ rp_ac (I' 66) n = 0) {w t : Nat} (ho : rx_ok I' n m w) (ht : t ≤ 40) (hT : I' 65 3 = nI t) (hw : w < 2 ^ m) : (cw_lo I 1 n m (nI t) w = 0 ↔ rw_lf I' n m w = m) ∧ (¬ rw_lf I' n m w = m → cw_nx I 1 n m (nI t) w = rw_nx I' n m w) := by
  have m6 := h.m6
  have h1 := lo_f (f := rx_hb I' n m (nI t) w) m6
  have e0 := a.hbf h hp ho ht
  have el : rw_lf I' n m w = rw_f (rx_hb I' n m (nI t) w) 0 m := by
    unfold rw_lf
    rw [hT]
  rw [el, e0]
  refine ⟨h1.1, fun hl => ?_⟩
  have hle := (rw_f_le (rx_hb I' n m (nI t) w) m 0).2
  have hlt : rw_f (rx_hb I' n m (nI t) w) 0 m < m := by omega
  have hS : cw_S I 1 n m (nI t) w = w ||| 2 ^ rw_f (rx_hb I' n m (nI t) w) 0 m := by
    unfold cw_S
    rw [e0, h1.2 hlt, or_dec w (lt64 m6 hw) _ (by omega)]
    have h2 := lt64 m6 (or_lt hw hlt)
    rw [nI_clamp (by omega)]
  unfold cw_nx rw_nx rx_res
  rw [hS, el, hT]
  exact a.find h hp ht _ _ _ _
theorem ag.go {I I' : aw_MI} {n m : Nat} (a : ag I I' 1 n m) (h : rg I' n m) (hp : ¬ rp_ac (I' 66) n = 0) {t : Nat} (ht : t ≤ 40) (hT : I' 65 3 = nI t) : ∀ (z w : Nat), w < 2 ^ m → rx_ok I' n m w → cw_go (cw_lo I 1 n m (nI t)) (cw_nx I 1 n m (nI t)) z (nI w) = rw_go (rw_lf I' n m) (rw_nx I' n m) m z (nI w)
  | 0, _, _, _ => rfl
  | z + 1, w, hw, ho => by
    have m6 := h.m6
    have h64 := lt64 m6 hw
    unfold cw_go rw_go
    rw [if_neg (nI_m1n (by omega)), if_neg (show ¬ nI w < 0 from fun e => absurd (Or.inl e) (nI_rg (a := 0) (b := 64) rfl (by omega) (by omega) (by omega))), nI_clamp (by omega)]
    obtain ⟨h1, h2⟩ := a.nx h hp ho ht hT hw
    by_cases e : rw_lf I' n m w = m
    · rw [if_pos e, if_pos (h1.mpr e)]
    · rw [if_neg e, if_neg (mt h1.mp e), h2 e]
      have hle := (rw_f_le (rx_hb I' n m (I' 65 3) w) m 0).2
      have hl : rw_lf I' n m w < m := by
        unfold rw_lf at e ⊢
        omega
      have hS : w ||| 2 ^ rw_lf I' n m w < 2 ^ m := or_lt hw hl
      have key : cw_go (cw_lo I 1 n m (nI t)) (cw_nx I 1 n m (nI t)) z (rw_nx I' n m w) = rw_go (rw_lf I' n m) (rw_nx I' n m) m z (rw_nx I' n m w) := by
        rcases find_r (rx_gb I' n m (nI (w ||| 2 ^ rw_lf I' n m w)) (I' 65 3)) (nI (w ||| 2 ^ rw_lf I' n m w)) ((w ||| 2 ^ rw_lf I' n m w) + 1) 0 with e2 | ⟨w', -, g2, g3, g4, -⟩
        · have e3 : rw_nx I' n m w = -1 := e2
          rw [e3]
          cases z with
          | zero => rfl
          | succ z =>
            unfold cw_go rw_go
            rw [if_pos m1_lt, if_pos rfl]
        · have e3 : rw_nx I' n m w = nI w' := g3
          rw [e3]
          exact ag.go a h hp ht hT z w' (by omega) (gb_ok g4).1
      rw [key]
theorem ag.L {I I' : aw_MI} {n m : Nat} (a : ag I I' 1 n m) (h : rg I' n m) (hp : ¬ rp_ac (I' 66) n = 0) {t : Nat} (ht : t ≤ 40) (hT : I' 65 3 = nI t) : cw_go (cw_lo I 1 n m (nI t)) (cw_nx I 1 n m (nI t)) 64 (cx_find (cx_gb I 1 n m (nI 0) (nI t)) (nI 0) 1 0) = rw_L I' n m := by
  have e : cx_find (cx_gb I 1 n m (nI 0) (nI t)) (nI 0) 1 0 = nI 0 := by
    rw [a.find h hp ht]
    unfold cx_find
    rw [if_pos (by decide), if_pos (gb0 h hp _)]
  rw [e]
  exact a.go h hp ht hT 64 0 (Nat.pow_pos (by decide)) (h.ok0 hp)
theorem st_steps {G : aw_G} {d : Nat} {Ω : aw_O} {I : aw_MI} {J : aw_MJ} {Q : Int32 → aw_O → aw_MI → aw_MJ → Prop} (R : Rel Ω I J) (hd : 160 ≤ d) (hQ : ∀ z I1 J1, pr_I G MX8_steps d 0 0 [.ref (aw_ad G 65)] z Ω I1 J1 → Q z Ω I1 J1) : aw_Call G MX7_steps d 0 0 [.ref (aw_ad G 0)] Ω I J (aw_QI Q) := by
  obtain ⟨n, m, t, ⟨hM, hW, hx⟩, ⟨n1, n3, m6, t40⟩, ⟨hn, ht, hm⟩, hF⟩ := R.f
  refine tX7_steps hM hn n3 hm m6 ht (by omega) ?_ ?_ ?_
  · intro cS
    obtain ⟨⟨hn8, ht8, hm8⟩, a, r⟩ := hF I (vI.r I)
    have eP : sp_hl (I 2) 1 n = rp_ac (I 66) n := a.hl r
    refine hQ _ _ _ (fun Q' k => tX8_steps hW hn8 n3 hm8 m6 (by omega) (fun e => absurd (by rw [← eP]; exact cS) e) ?_ ?_ ?_)
    · intro I2 J2 _ mI mJ; exact k _ _ _ (R.v (mr_v mI) (mr_w mJ)) (Nat.le_add_right _ _)
    · intro _ _ e; exact absurd (by rw [← eP]; exact cS) e
    · intro _ _ e; exact absurd (by rw [← eP]; exact cS) e
  · intro I1 J1 cS cI cJ cR
    obtain ⟨⟨hn8, ht8, hm8⟩, a, r⟩ := hF I1 (so_v cI)
    have R1 : Rel Ω I1 J1 := R.v (so_v cI) (sv_w22 cJ)
    have eP : sp_hl (I 2) 1 n = rp_ac (I1 66) n := a.hl r
    have hp : ¬ rp_ac (I1 66) n = 0 := by rw [← eP]; exact cS
    have eL := a.L r hp t40 ht8
    rw [eL] at cR
    refine hQ _ _ _ (fun Q' k => tX8_steps hW hn8 n3 hm8 m6 (by omega) (fun _ => ⟨r.T0 hp t40 ht8, r.ok0 hp⟩) ?_ ?_ ?_)
    · intro _ _ e _ _; exact absurd e hp
    · intro I2 J2 _ mI mJ _; exact k _ _ _ (R1.v (wr_v mI) (mr_w mJ)) (Nat.le_add_right _ _)
    · intro _ _ _ _ _ e; exact absurd cR e
  · intro I1 J1 cS cI cJ cR
    obtain ⟨⟨hn8, ht8, hm8⟩, a, r⟩ := hF I1 (so_v cI)
    have R1 : Rel Ω I1 J1 := R.v (so_v cI) (sv_w22 cJ)
    have eP : sp_hl (I 2) 1 n = rp_ac (I1 66) n := a.hl r
    have hp : ¬ rp_ac (I1 66) n = 0 := by rw [← eP]; exact cS
    have eL := a.L r hp t40 ht8
    rw [eL] at cR
    rw [eL]
    refine hQ _ _ _ (fun Q' k => tX8_steps hW hn8 n3 hm8 m6 (by omega) (fun _ => ⟨r.T0 hp t40 ht8, r.ok0 hp⟩) ?_ ?_ ?_)
    · intro _ _ e _ _; exact absurd e hp
    · intro _ _ _ _ _ e; exact absurd e cR
    · intro I2 J2 _ mI mJ _; exact k _ _ _ (R1.v (wr_v mI) (mr_w mJ)) (Nat.le_add_right _ _)
theorem st_walk {G : aw_G} {d : Nat} {Ω : aw_O} {I : aw_MI} {J : aw_MJ} {Q : Int32 → aw_O → aw_MI → aw_MJ → Prop} {x : Int32} (R : Rel Ω I J) (hd : 160 ≤ d) (hQ : ∀ z I1 J1, pr_I G MX8_walk d 0 0 [.ref (aw_ad G 65), .int x] z Ω I1 J1 → Q z Ω I1 J1) : aw_Call G MX7_walk d 0 0 [.ref (aw_ad G 0), .int x] Ω I J (aw_QI Q) := by
  obtain ⟨n, m, t, ⟨hM, hW, hx⟩, ⟨n1, n3, m6, t40⟩, ⟨hn, ht, hm⟩, hF⟩ := R.f
  refine tX7_walk hM hn n3 hm m6 ht (by omega) ?_ ?_ ?_
  · intro cS
    obtain ⟨⟨hn8, ht8, hm8⟩, a, r⟩ := hF I (vI.r I)
    have eP : sp_hl (I 2) 1 n = rp_ac (I 66) n := a.hl r
    refine hQ _ _ _ (fun Q' k => tX8_walk hW hn8 n3 hm8 m6 (by omega) (fun e => absurd (by rw [← eP]; exact cS) e) ?_ ?_ ?_)
    · intro I2 J2 _ mI mJ; exact k _ _ _ (R.v (mr_v mI) (mr_w mJ)) (Nat.le_add_right _ _)
    · intro _ _ e; exact absurd (by rw [← eP]; exact cS) e
    · intro _ _ _ _ _ e; exact absurd (by rw [← eP]; exact cS) e
  · intro I1 J1 cS cI cJ cR
    obtain ⟨⟨hn8, ht8, hm8⟩, a, r⟩ := hF I1 (so_v cI)
    have R1 : Rel Ω I1 J1 := R.v (so_v cI) (sv_w22 cJ)
    have eP : sp_hl (I 2) 1 n = rp_ac (I1 66) n := a.hl r
    have hp : ¬ rp_ac (I1 66) n = 0 := by rw [← eP]; exact cS
    have eL := a.L r hp t40 ht8
    rw [eL] at cR
    have cR2 := varN.mpr cR
    refine hQ _ _ _ (fun Q' k => tX8_walk hW hn8 n3 hm8 m6 (by omega) (fun _ => ⟨r.T0 hp t40 ht8, r.ok0 hp⟩) ?_ ?_ ?_)
    · intro _ _ e _ _; exact absurd e hp
    · intro I2 J2 _ mI mJ _; exact k _ _ _ (R1.v (wr_v mI) (mr_w mJ)) (Nat.le_add_right _ _)
    · intro j _ _ mx mj _ _ _
      have hlen : (rw_L I1 n m).1.length ≤ 64 := rw_go_len (rw_lf I1 n m) (rw_nx I1 n m) m 64 (nI 0)
      rw [mx, sp_var_in mj (by omega)] at cR2; exact absurd cR2 (by decide)
  · intro j I1 J1 cx cj cS cI cJ
    obtain ⟨⟨hn8, ht8, hm8⟩, a, r⟩ := hF I1 (so_v cI)
    have R1 : Rel Ω I1 J1 := R.v (so_v cI) (sv_w22 cJ)
    have eP : sp_hl (I 2) 1 n = rp_ac (I1 66) n := a.hl r
    have hp : ¬ rp_ac (I1 66) n = 0 := by rw [← eP]; exact cS
    have eL := a.L r hp t40 ht8
    have hlen : (rw_L I1 n m).1.length ≤ 64 := rw_go_len (rw_lf I1 n m) (rw_nx I1 n m) m 64 (nI 0)
    rw [eL] at cj
    rw [eL]
    refine hQ _ _ _ (fun Q' k => tX8_walk hW hn8 n3 hm8 m6 (by omega) (fun _ => ⟨r.T0 hp t40 ht8, r.ok0 hp⟩) ?_ ?_ ?_)
    · intro _ _ e _ _; exact absurd e hp
    · intro _ _ _ _ _ e
      rw [cx, sp_var_in cj (by omega)] at e; exact absurd e (by decide)
    · intro j' I2 J2 mx mj _ mI mJ
      have h1 : j' = j := (nI_eq (by omega) (by omega)).mp (by rw [← mx, ← cx])
      subst h1
      exact k _ _ _ (R1.v (wr_v mI) (mr_w mJ)) (Nat.le_add_right _ _)
theorem fst_find {gb : Nat → Bool} {x : Int32} {T : Nat} (hT : T < 2 ^ 31) (hx : ∀ w, w < T → nI w &&& (x ^^^ (-1)) = 0) : ∀ (z w : Nat), w + z = T → cx_fst gb T = if cx_fst gb w = -1 then cx_find gb x z w else cx_fst gb w
  | 0, w, h => by
    rw [show w = T by omega]
    show _ = if _ then (-1 : Int32) else _
    by_cases e : cx_fst gb T = -1
    · rw [if_pos e, e]
    · rw [if_neg e]
  | z + 1, w, h => by
    rw [fst_find hT hx z (w + 1) (by omega)]
    show (if (if cx_fst gb w = -1 then (if gb w = true then nI w else -1) else cx_fst gb w) = -1 then cx_find gb x z (w + 1) else (if cx_fst gb w = -1 then (if gb w = true then nI w else -1) else cx_fst gb w)) = _
    rw [show cx_find gb x (z + 1) w = if nI w &&& (x ^^^ (-1)) = 0 then (if gb w = true then nI w else cx_find gb x z (w + 1)) else cx_find gb x z (w + 1) from rfl]
    rw [if_pos (hx w (by omega))]
    by_cases e : cx_fst gb w = -1
    · rw [if_pos e, if_pos e]
      by_cases e2 : gb w = true
      · rw [if_pos e2, if_pos e2, if_neg (nI_m1n (by omega))]
      · rw [if_neg e2, if_neg e2, if_pos rfl]
    · rw [if_neg e, if_neg e, if_neg e]
theorem sub_dec : ∀ m, m < 7 → ∀ w, w < 2 ^ m → nI w &&& (nI (2 ^ m - 1) ^^^ (-1)) = 0 := by decide +kernel
theorem st_pieces {G : aw_G} {d : Nat} {Ω : aw_O} {I : aw_MI} {J : aw_MJ} {Q : Int32 → aw_O → aw_MI → aw_MJ → Prop} {x : Int32} (R : Rel Ω I J) (hd : 160 ≤ d) (hQ : ∀ z I1 J1, pr_I G MX8_pieces d 0 0 [.ref (aw_ad G 65), .int x] z Ω I1 J1 → Q z Ω I1 J1) : aw_Call G MX7_pieces d 0 0 [.ref (aw_ad G 0), .int x] Ω I J (aw_QI Q) := by
  obtain ⟨n, m, t, ⟨hM, hW, hx⟩, ⟨n1, n3, m6, t40⟩, ⟨hn, ht, hm⟩, hF⟩ := R.f
  have h64 : 2 ^ m ≤ 2 ^ 6 := Nat.pow_le_pow_right (by decide) m6
  have hpos : 0 < 2 ^ m := Nat.pow_pos (by decide)
  refine tX7_pieces hM hn n3 hm m6 ht (by omega) ?_ ?_ ?_
  · intro cB
    obtain ⟨⟨hn8, ht8, hm8⟩, a, r⟩ := hF I (vI.r I)
    refine hQ _ _ _ (fun Q' k => tX8_pieces hW hn8 n3 hm8 m6 (by omega) ?_ ?_ ?_)
    · intro _; exact k _ _ _ R (Nat.le_add_right _ _)
    · intro _ _ e; exact absurd (lh0.mpr cB) e
    · intro T _ _ mx m1 m2; exact absurd cB (nI_rg mx m1 m2 (by omega))
  · intro c1 c2 cS
    obtain ⟨⟨hn8, ht8, hm8⟩, a, r⟩ := hF I (vI.r I)
    have eP : sp_hl (I 2) 1 n = rp_ac (I 66) n := a.hl r
    refine hQ _ _ _ (fun Q' k => tX8_pieces hW hn8 n3 hm8 m6 (by omega) ?_ ?_ ?_)
    · intro e; exact absurd (lh0.mp e) (by rintro (e | e); exact c1 e; exact c2 e)
    · intro I2 J2 _ _ mI mJ; exact k _ _ _ (R.v (mr_v mI) (mr_w mJ)) (Nat.le_add_right _ _)
    · intro _ _ _ _ _ _ e; exact absurd (by rw [← eP]; exact cS) e
  · intro T I1 J1 cx cT1 cT cS cI cJ
    obtain ⟨⟨hn8, ht8, hm8⟩, a, r⟩ := hF I1 (so_v cI)
    have R1 : Rel Ω I1 J1 := R.v (so_v cI) (sv_w22 cJ)
    have eP : sp_hl (I 2) 1 n = rp_ac (I1 66) n := a.hl r
    have hp : ¬ rp_ac (I1 66) n = 0 := by rw [← eP]; exact cS
    refine hQ _ _ _ (fun Q' k => tX8_pieces hW hn8 n3 hm8 m6 (by omega) ?_ ?_ ?_)
    · intro e; exact absurd (lh0.mp e) (nI_rg cx cT1 cT (by omega))
    · intro _ _ _ e; exact absurd e hp
    · intro T' I2 J2 mx mT1 mT _ mI mJ
      have h1 : T' = T := (nI_eq (by omega) (by omega)).mp (by rw [← mx, ← cx])
      subst h1
      have e : sp_ch (fun t => cx_fst (cx_gb I 1 n m (nI (2 ^ m - 1)) (nI t)) (2 ^ m)) T' = sp_ch (rx_rt I1 n m) T' := by
        refine sp_ch_c (fun t ht => ?_)
        show cx_fst (cx_gb I 1 n m (nI (2 ^ m - 1)) (nI t)) (2 ^ m) = rx_rt I1 n m t
        have h2 := fst_find (gb := cx_gb I 1 n m (nI (2 ^ m - 1)) (nI t)) (x := nI (2 ^ m - 1)) (T := 2 ^ m) (by omega) (sub_dec m (by omega)) (2 ^ m) 0 (by omega)
        rw [if_pos (show cx_fst (cx_gb I 1 n m (nI (2 ^ m - 1)) (nI t)) 0 = -1 from rfl)] at h2
        rw [h2, a.find r hp (by omega)]
        unfold rx_rt
        rw [show 2 ^ m - 1 + 1 = 2 ^ m by omega]
      rw [← e]
      exact k _ _ _ (R1.v (mr_v mI) (mr_w mJ)) (Nat.le_add_right _ _)

/-! CERTIFICATES -/
theorem g1_eq {b : Int64} {x : Nat → Int64} (hb : 0 < b.toInt) : ∀ n, (∀ i, i < n → (x i).toInt.natAbs < 2 ^ 62) → sp_g1 b x n = rp_g1 b x n ∧ 0 < (rp_g1 b x n).toInt
  | 0, _ => ⟨rfl, hb⟩
  | n + 1, h => by
    obtain ⟨h1, h2⟩ := g1_eq hb n (fun i hi => h i (by omega))
    have h3 := h n (by omega)
    show sp_sh (sp_g1 b x n) (x n) = dv_v (x n) (rp_g1 b x n) ∧ 0 < (dv_v (x n) (rp_g1 b x n)).toInt
    rw [h1]
    generalize rp_g1 b x n = g at h2
    have e63 : Int64.minValue.toInt = -2 ^ 63 := rfl
    have na : ¬ x n = Int64.minValue := fun e => by rw [e, e63] at h3; omega
    have nb : ¬ g = Int64.minValue := fun e => by rw [e, e63] at h2; omega
    have e1 : (sp_sh g (x n)).toInt = Nat.gcd g.toInt.natAbs (x n).toInt.natAbs := sh64 nb na
    have e2 : (dv_v (x n) g).toInt = Nat.gcd (x n).toInt.natAbs g.toInt.natAbs := by
      unfold dv_v
      rw [gcd64 (sp_gt_all _ _ _ (Nat.le_refl _)) (by rw [abs64 na]; omega) (by omega), abs64 na]
      rfl
    refine ⟨Int64.toInt_inj.mp (by rw [e1, e2, Nat.gcd_comm]), ?_⟩
    rw [e2]
    have : 0 < Nat.gcd (x n).toInt.natAbs g.toInt.natAbs := Nat.gcd_pos_of_pos_right _ (by omega)
    omega
theorem shb_eq {b : Int64} {x y : Nat → Int64} {n m : Nat} (hb : 0 < b.toInt) (hx : ∀ i, i < n → (x i).toInt.natAbs < 2 ^ 62) (hy : ∀ i, i < m → (y i).toInt.natAbs < 2 ^ 62) : sp_shb b x y n m = rp_g1 (rp_g1 b x n) y m := by
  obtain ⟨h1, h2⟩ := g1_eq hb n hx
  obtain ⟨h3, h4⟩ := g1_eq h2 m hy
  unfold sp_shb
  rw [h1, h3, if_neg (fun e => by rw [e] at h4; exact absurd h4 (by decide))]
theorem g1_c {b : Int64} {x y : Nat → Int64} : ∀ {n : Nat}, (∀ i, i < n → x i = y i) → sp_g1 b x n = sp_g1 b y n
  | 0, _ => rfl
  | n + 1, h => by
    unfold sp_g1
    rw [g1_c (fun i hi => h i (by omega)), h n (by omega)]
theorem st_certify {G : aw_G} {d : Nat} {Ω : aw_O} {I : aw_MI} {J : aw_MJ} {Q : Int32 → aw_O → aw_MI → aw_MJ → Prop} {x : Int32} (R : Rel Ω I J) (hd : 160 ≤ d) (hQ : ∀ z I1 J1, pr_I G MX8_certify d 0 0 [.ref (aw_ad G 65), .int x] z Ω I1 J1 → Q z Ω I1 J1) : aw_Call G MX7_certify d 0 0 [.ref (aw_ad G 0), .int x] Ω I J (aw_QI Q) := by
  obtain ⟨n, m, t, ⟨hM, hW, hx⟩, ⟨n1, n3, m6, t40⟩, ⟨hn, ht, hm⟩, hF⟩ := R.f2
  have h64 : 2 ^ m ≤ 2 ^ 6 := Nat.pow_le_pow_right (by decide) m6
  refine tX7_certify hM hn n3 hm m6 ht (by omega) ?_ ?_ ?_ ?_
  · intro cB
    obtain ⟨⟨hn8, ht8, hm8⟩, a, r⟩ := hF I (fun _ _ _ => rfl)
    refine hQ _ _ _ (fun Q' k => tX8_certify hW hn8 n3 hm8 m6 (by omega) ?_ ?_ ?_ ?_)
    · intro _; exact k _ _ _ R (Nat.le_add_right _ _)
    · intro _ _ e; exact absurd cB e
    · intro _ _ e; exact absurd cB e
    · intro s _ _ _ _ mx ms; rw [mx, sp_var_in ms (by omega)] at cB; exact absurd cB (by decide)
  · intro cB cS
    obtain ⟨⟨hn8, ht8, hm8⟩, a, r⟩ := hF I (fun _ _ _ => rfl)
    have eP : sp_hl (I 2) 1 n = rp_ac (I 66) n := a.hl r
    refine hQ _ _ _ (fun Q' k => tX8_certify hW hn8 n3 hm8 m6 (by omega) ?_ ?_ ?_ ?_)
    · intro e; exact absurd e cB
    · intro _ _ _ _ mI mJ; exact k _ _ _ (R.v (mr_v mI) (mr_w mJ)) (Nat.le_add_right _ _)
    · intro _ _ _ e; exact absurd (by rw [← eP]; exact cS) e
    · intro _ _ _ _ _ _ _ e; exact absurd (by rw [← eP]; exact cS) e
  · intro I1 J1 cB cS cI cJ cR
    obtain ⟨⟨hn8, ht8, hm8⟩, a, r⟩ := hF I1 (fun a k e => by rw [cI.1 a (by omega)])
    have R1 : Rel Ω I1 J1 := R.v (sv_v22 cI) (sv_w22 cJ)
    have eP : sp_hl (I 2) 1 n = rp_ac (I1 66) n := a.hl r
    have hp : ¬ rp_ac (I1 66) n = 0 := by rw [← eP]; exact cS
    have eR : cx_res I n m t (2 ^ m - 1) = rx_res I1 n m (2 ^ m - 1) := by
      unfold cx_res rx_res
      rw [ht8]
      exact a.find r hp t40 _ _ _ _
    rw [eR] at cR
    refine hQ _ _ _ (fun Q' k => tX8_certify hW hn8 n3 hm8 m6 (by omega) ?_ ?_ ?_ ?_)
    · intro e; exact absurd e cB
    · intro _ _ _ e; exact absurd e hp
    · intro _ _ _ _ mI mJ _; exact k _ _ _ (R1.v (mr_v mI) (mr_w mJ)) (Nat.le_add_right _ _)
    · intro _ w _ _ _ _ _ _ mw _ _ _ mR; rw [cR] at mR; exact absurd mR.symm (nI_m1n (by omega))
  · intro s w I0 J0 J1 cx cs cS cw cI cJ cG cR cP
    have g : ∀ a k, a < 22 ∨ 39 ≤ a → a ≠ 57 → a ≠ 58 → aw_up (aw_up I0 57 s (nI 1)) 58 s (nI (n + m + 1)) a k = I a k := fun a k e1 e2 e3 => by
      rw [aw_up_ne _ _ (by omega), aw_up_ne _ _ (by omega), cI.1 a (by omega)]
    have g57 : ∀ q, aw_up (aw_up I0 57 s (nI 1)) 58 s (nI (n + m + 1)) 57 q = if q = s then nI 1 else I 57 q := fun q => by
      rw [aw_up_ne _ _ (by omega)]
      by_cases e : q = s
      · rw [if_pos e, e, aw_up_self]
      · rw [if_neg e, aw_up_ne _ _ (by omega), cI.1 57 (by omega)]
    have g58 : ∀ q, aw_up (aw_up I0 57 s (nI 1)) 58 s (nI (n + m + 1)) 58 q = if q = s then nI (n + m + 1) else I 58 q := fun q => by
      by_cases e : q = s
      · rw [if_pos e, e, aw_up_self]
      · rw [if_neg e, aw_up_ne _ _ (by omega), aw_up_ne _ _ (by omega), cI.1 58 (by omega)]
    generalize aw_up (aw_up I0 57 s (nI 1)) 58 s (nI (n + m + 1)) = I1 at g g57 g58
    obtain ⟨⟨hn8, ht8, hm8⟩, a, r⟩ := hF I1 (fun a k e => g a k (by omega) (by omega) (by omega))
    have eP : sp_hl (I 2) 1 n = rp_ac (I1 66) n := a.hl r
    have hp : ¬ rp_ac (I1 66) n = 0 := by rw [← eP]; exact cS
    have eR : cx_res I n m t (2 ^ m - 1) = rx_res I1 n m (2 ^ m - 1) := by
      unfold cx_res rx_res
      rw [ht8]
      exact a.find r hp t40 _ _ _ _
    rw [eR] at cR
    have hB : ¬ sp_var x 4 = 0 := by rw [cx, sp_var_in cs (by omega)]; decide
    refine hQ _ _ _ (fun Q' k => tX8_certify hW hn8 n3 hm8 m6 (by omega) ?_ ?_ ?_ ?_)
    · intro e; exact absurd e hB
    · intro _ _ _ e; exact absurd e hp
    · intro _ _ _ _ _ _ mR; rw [cR] at mR; exact absurd mR (nI_m1n (by omega))
    · intro s' w' I3 J3 J2 mx ms _ mw mI mJ mG mR mP
      have ew : w' = w := (nI_eq (by omega) (by omega)).mp (by rw [← mR, ← cR])
      have es : s' = s := (nI_eq (by omega) (by omega)).mp (by rw [← mx, ← cx])
      subst ew es
      rw [ht8] at mG mP
      have ho := (gb_ok mG).1
      obtain ⟨p1, p2, p3, p4, p5, p6⟩ := cP
      obtain ⟨o1, o2, o3, o4, o5, o6⟩ := mP
      have hbp : 0 < (rx_b I1 n m w').toInt := by rw [(r.bI ho.1).1]; exact (r.b0 ho).1
      have eD : sp_shb (cx_b I 1 n m w') (cx_v I 1 n m w' (nI t)) (cx_y I 1 n m w' (nI t)) n m = rp_g1 (rp_g1 (rx_b I1 n m w') (rx_v I1 n m w' (nI t)) n) (rx_y I1 n m w' (nI t)) m := by
        rw [← shb_eq hbp (fun i hi => by have := r.vI ho.1 t40 (c := i) (by omega); omega) (fun l hl => by have := r.yI ho.1 t40 l; omega)]
        unfold sp_shb
        rw [a.b r hp ho, g1_c (x := cx_v I 1 n m w' (nI t)) (fun i hi => a.v r hp ho t40 (by omega)), g1_c (x := cx_y I 1 n m w' (nI t)) (fun l hl => a.y r hp ho t40 l)]
      rw [eD] at p1 p2 p3
      have hm1 : ∀ k, k ≠ 65 → k ≠ 77 → I3 k = I1 k := fun k e1 e2 => funext fun q => mI k q (by omega) (by omega)
      refine k _ _ _ (R.sheet (fun a k e => ?_) (fun a k e => ?_) (fun q hq => ?_)) (Nat.le_add_right _ _)
      · rw [aw_up_ne _ _ (by omega), aw_up_ne _ _ (by omega), mI a k (by omega) (by omega), g a k (by omega) (by omega) (by omega)]
      · rw [o6 a k (by omega), mJ a k (by omega) (by omega), p6 a (by omega)]
      · obtain ⟨h1, h2, h3, h4, h5⟩ := R.2.2.2.1 q hq
        have f57 : aw_up (aw_up I3 81 s' (nI 1)) 82 s' (nI (n + m + 1)) 57 q = if q = s' then nI 1 else I 57 q := by
          rw [aw_up_ne _ _ (by omega), aw_up_ne _ _ (by omega), hm1 57 (by omega) (by omega), g57]
        have f58 : aw_up (aw_up I3 81 s' (nI 1)) 82 s' (nI (n + m + 1)) 58 q = if q = s' then nI (n + m + 1) else I 58 q := by
          rw [aw_up_ne _ _ (by omega), aw_up_ne _ _ (by omega), hm1 58 (by omega) (by omega), g58]
        have f81 : aw_up (aw_up I3 81 s' (nI 1)) 82 s' (nI (n + m + 1)) 81 q = if q = s' then nI 1 else I 81 q := by
          rw [aw_up_ne _ _ (by omega)]
          by_cases e : q = s'
          · rw [if_pos e, e, aw_up_self]
          · rw [if_neg e, aw_up_ne _ _ (by omega), hm1 81 (by omega) (by omega), g 81 _ (by omega) (by omega) (by omega)]
        have f82 : aw_up (aw_up I3 81 s' (nI 1)) 82 s' (nI (n + m + 1)) 82 q = if q = s' then nI (n + m + 1) else I 82 q := by
          by_cases e : q = s'
          · rw [if_pos e, e, aw_up_self]
          · rw [if_neg e, aw_up_ne _ _ (by omega), aw_up_ne _ _ (by omega), hm1 82 (by omega) (by omega), g 82 _ (by omega) (by omega) (by omega)]
        rw [f57, f58, f81, f82]
        refine ⟨by rw [h1], by rw [h2], ?_, ?_, fun i hi => ?_⟩
        · by_cases e : q = s'
          · rw [if_pos e]; exact Or.inr (Or.inr rfl)
          · rw [if_neg e]; exact h3
        · by_cases e : q = s'
          · rw [if_pos e]; exact ⟨n + m + 1, by omega, rfl⟩
          · rw [if_neg e]; exact h4
        · have j59 : J2 59 (q * 12 + i) = J1 59 (q * 12 + i) := by rw [o6 59 _ (by omega), mJ 59 _ (by omega) (by omega)]
          rw [j59]
          by_cases e : q = s'
          · subst e
            rcases (by omega : i < n ∨ (n ≤ i ∧ i < n + m) ∨ i = n + m ∨ n + m < i) with c | c | c | c
            · rw [p1 i c, o1 i c, a.v r hp ho t40 (by omega)]
            · have c1 := p2 (i - n) (by omega)
              have c2 := o2 (i - n) (by omega)
              rw [show q * 12 + n + (i - n) = q * 12 + i by omega] at c1
              rw [show 12 * q + n + (i - n) = 12 * q + i by omega] at c2
              rw [c1, c2, a.y r hp ho t40]
            · rw [c, p3, ← Nat.add_assoc, o3, a.b r hp ho]
            · rw [p4 i c hi, o4 i c hi]
          · rw [p5 _ (by omega), o5 _ (by omega), mJ 83 _ (by omega) (by omega), p6 83 (by omega)]
            exact h5 i hi

/-! CALLS THAT SEEK AN ANSWER -/
theorem ag.h {I I' : aw_MI} {c n m : Nat} (a : ag I I' c n m) (h : rg I' n m) (hp : ¬ rp_ac (I' 66) n = 0) {S t : Nat} (ho : rx_ok I' n m S) (ht : t ≤ 40) : cw_h I c n m (nI t) S = rx_h I' n m (nI t) S := by
  unfold cw_h rx_h
  refine sp_or_c (fun l hl => ?_)
  rw [a.kd l hl, a.slx h hp ho ht hl]
theorem ag.ti {I I' : aw_MI} {c n m : Nat} (a : ag I I' c n m) (h : rg I' n m) (hp : ¬ rp_ac (I' 66) n = 0) {S t : Nat} (ho : rx_ok I' n m S) (ht : t ≤ 40) : cx_ti I c n m (nI t) S = rx_ti I' n m (nI t) S := by
  unfold cx_ti rx_ti
  refine sp_or_c (fun l hl => ?_)
  rw [a.slx h hp ho ht hl]
theorem rg.b2 {I' : aw_MI} {n m : Nat} (h : rg I' n m) {S : Nat} (ho : rx_ok I' n m S) : (2 * rx_b I' n m S).toInt = 2 * ex_b I' n m S ∧ 0 < 2 * ex_b I' n m S := by
  have h1 := h.bI ho.1
  have h2 := (h.b0 ho).1
  have e : 2 * rx_b I' n m S = Int64.ofInt (2 * ex_b I' n m S) := by
    rw [Int64.ofInt_mul, ← h1.1, Int64.ofInt_toInt]
    rfl
  refine ⟨?_, by omega⟩
  rw [e, ofI_t (by omega)]
theorem st_working {G : aw_G} {d : Nat} {Ω : aw_O} {I : aw_MI} {J : aw_MJ} {Q : Int32 → aw_O → aw_MI → aw_MJ → Prop} {x : Int32} (R : Rel Ω I J) (hd : 160 ≤ d) (hQ : ∀ z I1 J1, pr_I G MX8_working d 0 0 [.ref (aw_ad G 65), .int x] z Ω I1 J1 → Q z Ω I1 J1) : aw_Call G MX7_working d 0 0 [.ref (aw_ad G 0), .int x] Ω I J (aw_QI Q) := by
  obtain ⟨n, m, t, ⟨hM, hW, hx⟩, ⟨n1, n3, m6, t40⟩, ⟨hn, ht, hm⟩, hF⟩ := R.f
  have h64 : 2 ^ m ≤ 2 ^ 6 := Nat.pow_le_pow_right (by decide) m6
  have eT : (sp_set x m = 0) ↔ (sp_var x (2 ^ m) = 0) := set_eq m6
  refine tX7_working hM hn n3 hm m6 ht (by omega) ?_ ?_ ?_
  · intro cB
    refine hQ _ _ _ (fun Q' k => ?_)
    obtain ⟨⟨hn8, ht8, hm8⟩, a, r⟩ := hF I (vI.r I)
    have R1 : Rel Ω I J := R
    have eP : sp_hl (I 2) 1 n = rp_ac (I 66) n := a.hl r
    refine tX8_working hW hn8 n3 hm8 m6 (by omega) ?_ ?_ ?_
    · intro mB
      exact k _ _ _ R1 (Nat.le_add_right _ _)
    · intro I2 J2 mB mS mI mJ
      exact absurd (eT.mp cB) mB
    · intro S' I2 J2 mx mS2 mS mI mJ
      exact absurd (eT.mp cB) (by rw [mx, sp_varS mS2 (by omega)]; decide)
  · intro cB cS
    refine hQ _ _ _ (fun Q' k => ?_)
    obtain ⟨⟨hn8, ht8, hm8⟩, a, r⟩ := hF I (vI.r I)
    have R1 : Rel Ω I J := R
    have eP : sp_hl (I 2) 1 n = rp_ac (I 66) n := a.hl r
    refine tX8_working hW hn8 n3 hm8 m6 (by omega) ?_ ?_ ?_
    · intro mB
      exact absurd (eT.mpr mB) cB
    · intro I2 J2 mB mS mI mJ
      exact k _ _ _ (R1.v (mr_v mI) (mr_w mJ)) (Nat.le_add_right _ _)
    · intro S' I2 J2 mx mS2 mS mI mJ
      exact absurd (by rw [← eP]; exact cS) mS
  · intro S I1 J1 cx cS2 cS cI cJ
    refine hQ _ _ _ (fun Q' k => ?_)
    obtain ⟨⟨hn8, ht8, hm8⟩, a, r⟩ := hF I1 (sv_v22 cI)
    have R1 : Rel Ω I1 J1 := R.v (sv_v22 cI) (sv_w22 cJ)
    have eP : sp_hl (I 2) 1 n = rp_ac (I1 66) n := a.hl r
    have cB : ¬ sp_set x m = 0 := by rw [cx]; exact set_in m (by omega) S cS2
    have hp : ¬ rp_ac (I1 66) n = 0 := by rw [← eP]; exact cS
    have eR : cx_res I n m t S = rx_res I1 n m S := by
      unfold cx_res rx_res
      rw [ht8]
      exact a.find r hp t40 _ _ _ _
    refine tX8_working hW hn8 n3 hm8 m6 (by omega) ?_ ?_ ?_
    · intro mB
      exact absurd (eT.mpr mB) cB
    · intro I2 J2 mB mS mI mJ
      exact absurd mS hp
    · intro S' I2 J2 mx mS2 mS mI mJ
      have eS : S' = S := (nI_eq (by omega) (by omega)).mp (by rw [← mx, ← cx])
      subst eS
      rw [← eR]
      exact k _ _ _ (R1.v (mr_v mI) (mr_w mJ)) (Nat.le_add_right _ _)
theorem st_answer {G : aw_G} {d : Nat} {Ω : aw_O} {I : aw_MI} {J : aw_MJ} {Q : Int64 → aw_O → aw_MI → aw_MJ → Prop} {x y v : Int32} (R : Rel Ω I J) (hd : 160 ≤ d) (hQ : ∀ z I1 J1, pr_L G MX8_answer d 0 0 [.ref (aw_ad G 65), .int x, .int y, .int v] z Ω I1 J1 → Q z Ω I1 J1) : aw_Call G MX7_answer d 0 0 [.ref (aw_ad G 0), .int x, .int y, .int v] Ω I J (aw_QL Q) := by
  obtain ⟨n, m, t, ⟨hM, hW, hx⟩, ⟨n1, n3, m6, t40⟩, ⟨hn, ht, hm⟩, hF⟩ := R.f
  have h64 : 2 ^ m ≤ 2 ^ 6 := Nat.pow_le_pow_right (by decide) m6
  have eT : (sp_set x m = 0 ∨ sp_var y n = 0 ∨ sp_part v = 0) ↔ (sp_var x (2 ^ m) = 0 ∨ sp_var y n = 0 ∨ sp_part v = 0) := by rw [set_eq m6]
  refine tX7_answer hM hn n3 hm m6 ht (by omega) ?_ ?_ ?_ ?_
  · intro cB
    refine hQ _ _ _ (fun Q' k => ?_)
    obtain ⟨⟨hn8, ht8, hm8⟩, a, r⟩ := hF I (vI.r I)
    have R1 : Rel Ω I J := R
    have eP : sp_hl (I 2) 1 n = rp_ac (I 66) n := a.hl r
    refine tX8_answer hW hn8 n3 hm8 m6 (by omega) ?_ ?_ ?_ ?_
    · intro mB
      exact k _ _ _ R1 (Nat.le_add_right _ _)
    · intro I2 J2 mB mS mI mJ
      exact absurd (eT.mp cB) mB
    · intro S' i' I2 J2 mx mS2 my mi mB mS mI mJ mR
      exact absurd (eT.mp cB) mB
    · intro S' i' w' I2 J2 mx mS2 my mi mB mS mw mI mJ mG mR
      exact absurd (eT.mp cB) mB
  · intro cB cS
    refine hQ _ _ _ (fun Q' k => ?_)
    obtain ⟨⟨hn8, ht8, hm8⟩, a, r⟩ := hF I (vI.r I)
    have R1 : Rel Ω I J := R
    have eP : sp_hl (I 2) 1 n = rp_ac (I 66) n := a.hl r
    refine tX8_answer hW hn8 n3 hm8 m6 (by omega) ?_ ?_ ?_ ?_
    · intro mB
      exact absurd (eT.mpr mB) cB
    · intro I2 J2 mB mS mI mJ
      exact k _ _ _ (R1.v (mr_v mI) (mr_w mJ)) (Nat.le_add_right _ _)
    · intro S' i' I2 J2 mx mS2 my mi mB mS mI mJ mR
      exact absurd (by rw [← eP]; exact cS) mS
    · intro S' i' w' I2 J2 mx mS2 my mi mB mS mw mI mJ mG mR
      exact absurd (by rw [← eP]; exact cS) mS
  · intro S i I1 J1 cx cS2 cy ci cB cS cI cJ cR
    refine hQ _ _ _ (fun Q' k => ?_)
    obtain ⟨⟨hn8, ht8, hm8⟩, a, r⟩ := hF I1 (sv_v22 cI)
    have R1 : Rel Ω I1 J1 := R.v (sv_v22 cI) (sv_w22 cJ)
    have eP : sp_hl (I 2) 1 n = rp_ac (I1 66) n := a.hl r
    have hp : ¬ rp_ac (I1 66) n = 0 := by rw [← eP]; exact cS
    have eR : cx_res I n m t S = rx_res I1 n m S := by
      unfold cx_res rx_res
      rw [ht8]
      exact a.find r hp t40 _ _ _ _
    refine tX8_answer hW hn8 n3 hm8 m6 (by omega) ?_ ?_ ?_ ?_
    · intro mB
      exact absurd (eT.mpr mB) cB
    · intro I2 J2 mB mS mI mJ
      exact absurd mS hp
    · intro S' i' I2 J2 mx mS2 my mi mB mS mI mJ mR
      exact k _ _ _ (R1.v (mr_v mI) (mr_w mJ)) (Nat.le_add_right _ _)
    · intro S' i' w' I2 J2 mx mS2 my mi mB mS mw mI mJ mG mR
      have eS : S' = S := (nI_eq (by omega) (by omega)).mp (by rw [← mx, ← cx])
      subst eS
      rw [eR, mR] at cR
      exact absurd cR (nI_m1n (by omega))
  · intro S i w I1 J1 cx cS2 cy ci cB cS cw cI cJ cG cR
    refine hQ _ _ _ (fun Q' k => ?_)
    obtain ⟨⟨hn8, ht8, hm8⟩, a, r⟩ := hF I1 (sv_v22 cI)
    have R1 : Rel Ω I1 J1 := R.v (sv_v22 cI) (sv_w22 cJ)
    have eP : sp_hl (I 2) 1 n = rp_ac (I1 66) n := a.hl r
    have hp : ¬ rp_ac (I1 66) n = 0 := by rw [← eP]; exact cS
    have eR : cx_res I n m t S = rx_res I1 n m S := by
      unfold cx_res rx_res
      rw [ht8]
      exact a.find r hp t40 _ _ _ _
    refine tX8_answer hW hn8 n3 hm8 m6 (by omega) ?_ ?_ ?_ ?_
    · intro mB
      exact absurd (eT.mpr mB) cB
    · intro I2 J2 mB mS mI mJ
      exact absurd mS hp
    · intro S' i' I2 J2 mx mS2 my mi mB mS mI mJ mR
      have eS : S' = S := (nI_eq (by omega) (by omega)).mp (by rw [← mx, ← cx])
      subst eS
      rw [eR, mR] at cR
      exact absurd cR.symm (nI_m1n (by omega))
    · intro S' i' w' I2 J2 mx mS2 my mi mB mS mw mI mJ mG mR
      have eS : S' = S := (nI_eq (by omega) (by omega)).mp (by rw [← mx, ← cx])
      subst eS
      have ei : i' = i := (nI_eq (by omega) (by omega)).mp (by rw [← my, ← cy])
      subst ei
      have ew : w' = w := (nI_eq (by omega) (by omega)).mp (by rw [← mR, ← cR, eR])
      subst ew
      have ho := (gb_ok mG).1
      rw [ht8]
      rw [ht8] at mG
      rw [← told_lw (by have := r.vI ho.1 t40 (c := i') (by omega); rw [this.1]; omega) (by rw [(r.bI ho.1).1]; exact (r.b0 ho).1), ← a.v r hp ho t40 (by omega), ← a.b r hp ho]
      exact k _ _ _ (R1.v (mr_v mI) (mr_w mJ)) (Nat.le_add_right _ _)
theorem st_worth {G : aw_G} {d : Nat} {Ω : aw_O} {I : aw_MI} {J : aw_MJ} {Q : Int64 → aw_O → aw_MI → aw_MJ → Prop} {x v : Int32} (R : Rel Ω I J) (hd : 160 ≤ d) (hQ : ∀ z I1 J1, pr_L G MX8_worth d 0 0 [.ref (aw_ad G 65), .int x, .int v] z Ω I1 J1 → Q z Ω I1 J1) : aw_Call G MX7_worth d 0 0 [.ref (aw_ad G 0), .int x, .int v] Ω I J (aw_QL Q) := by
  obtain ⟨n, m, t, ⟨hM, hW, hx⟩, ⟨n1, n3, m6, t40⟩, ⟨hn, ht, hm⟩, hF⟩ := R.f
  have h64 : 2 ^ m ≤ 2 ^ 6 := Nat.pow_le_pow_right (by decide) m6
  have eT : (sp_set x m = 0 ∨ sp_part v = 0) ↔ (sp_var x (2 ^ m) = 0 ∨ sp_part v = 0) := by rw [set_eq m6]
  refine tX7_worth hM hn n3 hm m6 ht (by omega) ?_ ?_ ?_ ?_
  · intro cB
    refine hQ _ _ _ (fun Q' k => ?_)
    obtain ⟨⟨hn8, ht8, hm8⟩, a, r⟩ := hF I (vI.r I)
    have R1 : Rel Ω I J := R
    have eP : sp_hl (I 2) 1 n = rp_ac (I 66) n := a.hl r
    refine tX8_worth hW hn8 n3 hm8 m6 (by omega) (fun S w _ _ _ g e => by have h1 := r.b2 (gb_ok g).1; rw [eq0_64, h1.1] at e; omega) ?_ ?_ ?_ ?_
    · intro mB
      exact k _ _ _ R1 (Nat.le_add_right _ _)
    · intro I2 J2 mB mS mI mJ
      exact absurd (eT.mp cB) mB
    · intro S' I2 J2 mx mS2 mB mS mI mJ mR
      exact absurd (eT.mp cB) mB
    · intro S' w' I2 J2 mx mS2 mB mS mw mI mJ mG mR
      exact absurd (eT.mp cB) mB
  · intro cB cS
    refine hQ _ _ _ (fun Q' k => ?_)
    obtain ⟨⟨hn8, ht8, hm8⟩, a, r⟩ := hF I (vI.r I)
    have R1 : Rel Ω I J := R
    have eP : sp_hl (I 2) 1 n = rp_ac (I 66) n := a.hl r
    refine tX8_worth hW hn8 n3 hm8 m6 (by omega) (fun S w _ _ _ g e => by have h1 := r.b2 (gb_ok g).1; rw [eq0_64, h1.1] at e; omega) ?_ ?_ ?_ ?_
    · intro mB
      exact absurd (eT.mpr mB) cB
    · intro I2 J2 mB mS mI mJ
      exact k _ _ _ (R1.v (mr_v mI) (mr_w mJ)) (Nat.le_add_right _ _)
    · intro S' I2 J2 mx mS2 mB mS mI mJ mR
      exact absurd (by rw [← eP]; exact cS) mS
    · intro S' w' I2 J2 mx mS2 mB mS mw mI mJ mG mR
      exact absurd (by rw [← eP]; exact cS) mS
  · intro S I1 J1 cx cS2 cB cS cI cJ cR
    refine hQ _ _ _ (fun Q' k => ?_)
    obtain ⟨⟨hn8, ht8, hm8⟩, a, r⟩ := hF I1 (sv_v22 cI)
    have R1 : Rel Ω I1 J1 := R.v (sv_v22 cI) (sv_w22 cJ)
    have eP : sp_hl (I 2) 1 n = rp_ac (I1 66) n := a.hl r
    have hp : ¬ rp_ac (I1 66) n = 0 := by rw [← eP]; exact cS
    have eR : cx_res I n m t S = rx_res I1 n m S := by
      unfold cx_res rx_res
      rw [ht8]
      exact a.find r hp t40 _ _ _ _
    refine tX8_worth hW hn8 n3 hm8 m6 (by omega) (fun S w _ _ _ g e => by have h1 := r.b2 (gb_ok g).1; rw [eq0_64, h1.1] at e; omega) ?_ ?_ ?_ ?_
    · intro mB
      exact absurd (eT.mpr mB) cB
    · intro I2 J2 mB mS mI mJ
      exact absurd mS hp
    · intro S' I2 J2 mx mS2 mB mS mI mJ mR
      exact k _ _ _ (R1.v (mr_v mI) (mr_w mJ)) (Nat.le_add_right _ _)
    · intro S' w' I2 J2 mx mS2 mB mS mw mI mJ mG mR
      have eS : S' = S := (nI_eq (by omega) (by omega)).mp (by rw [← mx, ← cx])
      subst eS
      rw [eR, mR] at cR
      exact absurd cR (nI_m1n (by omega))
  · intro S w I1 J1 cx cS2 cB cS cw cI cJ cG cR
    refine hQ _ _ _ (fun Q' k => ?_)
    obtain ⟨⟨hn8, ht8, hm8⟩, a, r⟩ := hF I1 (sv_v22 cI)
    have R1 : Rel Ω I1 J1 := R.v (sv_v22 cI) (sv_w22 cJ)
    have eP : sp_hl (I 2) 1 n = rp_ac (I1 66) n := a.hl r
    have hp : ¬ rp_ac (I1 66) n = 0 := by rw [← eP]; exact cS
    have eR : cx_res I n m t S = rx_res I1 n m S := by
      unfold cx_res rx_res
      rw [ht8]
      exact a.find r hp t40 _ _ _ _
    refine tX8_worth hW hn8 n3 hm8 m6 (by omega) (fun S w _ _ _ g e => by have h1 := r.b2 (gb_ok g).1; rw [eq0_64, h1.1] at e; omega) ?_ ?_ ?_ ?_
    · intro mB
      exact absurd (eT.mpr mB) cB
    · intro I2 J2 mB mS mI mJ
      exact absurd mS hp
    · intro S' I2 J2 mx mS2 mB mS mI mJ mR
      have eS : S' = S := (nI_eq (by omega) (by omega)).mp (by rw [← mx, ← cx])
      subst eS
      rw [eR, mR] at cR
      exact absurd cR.symm (nI_m1n (by omega))
    · intro S' w' I2 J2 mx mS2 mB mS mw mI mJ mG mR
      have eS : S' = S := (nI_eq (by omega) (by omega)).mp (by rw [← mx, ← cx])
      subst eS
      have ew : w' = w := (nI_eq (by omega) (by omega)).mp (by rw [← mR, ← cR, eR])
      subst ew
      have ho := (gb_ok mG).1
      rw [ht8]
      rw [ht8] at mG
      rw [← told_lw (by have := r.woI ho.1 t40; rw [this.1]; omega) (by rw [(r.b2 ho).1]; exact (r.b2 ho).2), ← a.wo r hp ho t40, ← a.b r hp ho]
      exact k _ _ _ (R1.v (mr_v mI) (mr_w mJ)) (Nat.le_add_right _ _)
theorem st_weight {G : aw_G} {d : Nat} {Ω : aw_O} {I : aw_MI} {J : aw_MJ} {Q : Int64 → aw_O → aw_MI → aw_MJ → Prop} {x y v : Int32} (R : Rel Ω I J) (hd : 160 ≤ d) (hQ : ∀ z I1 J1, pr_L G MX8_weight d 0 0 [.ref (aw_ad G 65), .int x, .int y, .int v] z Ω I1 J1 → Q z Ω I1 J1) : aw_Call G MX7_weight d 0 0 [.ref (aw_ad G 0), .int x, .int y, .int v] Ω I J (aw_QL Q) := by
  obtain ⟨n, m, t, ⟨hM, hW, hx⟩, ⟨n1, n3, m6, t40⟩, ⟨hn, ht, hm⟩, hF⟩ := R.f
  have h64 : 2 ^ m ≤ 2 ^ 6 := Nat.pow_le_pow_right (by decide) m6
  have eT : (sp_set x m = 0 ∨ sp_var y m = 0 ∨ sp_of x y = 0 ∨ sp_part v = 0) ↔ (sp_var x (2 ^ m) = 0 ∨ sp_var y m = 0 ∨ sp_has x y = 0 ∨ sp_part v = 0) := by have := of_eq (x := x) (y := y) m6; grind
  refine tX7_weight hM hn n3 hm m6 ht (by omega) ?_ ?_ ?_ ?_
  · intro cB
    refine hQ _ _ _ (fun Q' k => ?_)
    obtain ⟨⟨hn8, ht8, hm8⟩, a, r⟩ := hF I (vI.r I)
    have R1 : Rel Ω I J := R
    have eP : sp_hl (I 2) 1 n = rp_ac (I 66) n := a.hl r
    refine tX8_weight hW hn8 n3 hm8 m6 (by omega) ?_ ?_ ?_ ?_
    · intro mB
      exact k _ _ _ R1 (Nat.le_add_right _ _)
    · intro I2 J2 mB mS mI mJ
      exact absurd (eT.mp cB) mB
    · intro S' i' I2 J2 mx mS2 my mi mB mS mI mJ mR
      exact absurd (eT.mp cB) mB
    · intro S' i' w' I2 J2 mx mS2 my mi mB mS mw mI mJ mG mR
      exact absurd (eT.mp cB) mB
  · intro cB cS
    refine hQ _ _ _ (fun Q' k => ?_)
    obtain ⟨⟨hn8, ht8, hm8⟩, a, r⟩ := hF I (vI.r I)
    have R1 : Rel Ω I J := R
    have eP : sp_hl (I 2) 1 n = rp_ac (I 66) n := a.hl r
    refine tX8_weight hW hn8 n3 hm8 m6 (by omega) ?_ ?_ ?_ ?_
    · intro mB
      exact absurd (eT.mpr mB) cB
    · intro I2 J2 mB mS mI mJ
      exact k _ _ _ (R1.v (mr_v mI) (mr_w mJ)) (Nat.le_add_right _ _)
    · intro S' i' I2 J2 mx mS2 my mi mB mS mI mJ mR
      exact absurd (by rw [← eP]; exact cS) mS
    · intro S' i' w' I2 J2 mx mS2 my mi mB mS mw mI mJ mG mR
      exact absurd (by rw [← eP]; exact cS) mS
  · intro S i I1 J1 cx cS2 cy ci cB cS cI cJ cR
    refine hQ _ _ _ (fun Q' k => ?_)
    obtain ⟨⟨hn8, ht8, hm8⟩, a, r⟩ := hF I1 (sv_v22 cI)
    have R1 : Rel Ω I1 J1 := R.v (sv_v22 cI) (sv_w22 cJ)
    have eP : sp_hl (I 2) 1 n = rp_ac (I1 66) n := a.hl r
    have hp : ¬ rp_ac (I1 66) n = 0 := by rw [← eP]; exact cS
    have eR : cx_res I n m t S = rx_res I1 n m S := by
      unfold cx_res rx_res
      rw [ht8]
      exact a.find r hp t40 _ _ _ _
    refine tX8_weight hW hn8 n3 hm8 m6 (by omega) ?_ ?_ ?_ ?_
    · intro mB
      exact absurd (eT.mpr mB) cB
    · intro I2 J2 mB mS mI mJ
      exact absurd mS hp
    · intro S' i' I2 J2 mx mS2 my mi mB mS mI mJ mR
      exact k _ _ _ (R1.v (mr_v mI) (mr_w mJ)) (Nat.le_add_right _ _)
    · intro S' i' w' I2 J2 mx mS2 my mi mB mS mw mI mJ mG mR
      have eS : S' = S := (nI_eq (by omega) (by omega)).mp (by rw [← mx, ← cx])
      subst eS
      rw [eR, mR] at cR
      exact absurd cR (nI_m1n (by omega))
  · intro S i w I1 J1 cx cS2 cy ci cB cS cw cI cJ cG cR
    refine hQ _ _ _ (fun Q' k => ?_)
    obtain ⟨⟨hn8, ht8, hm8⟩, a, r⟩ := hF I1 (sv_v22 cI)
    have R1 : Rel Ω I1 J1 := R.v (sv_v22 cI) (sv_w22 cJ)
    have eP : sp_hl (I 2) 1 n = rp_ac (I1 66) n := a.hl r
    have hp : ¬ rp_ac (I1 66) n = 0 := by rw [← eP]; exact cS
    have eR : cx_res I n m t S = rx_res I1 n m S := by
      unfold cx_res rx_res
      rw [ht8]
      exact a.find r hp t40 _ _ _ _
    refine tX8_weight hW hn8 n3 hm8 m6 (by omega) ?_ ?_ ?_ ?_
    · intro mB
      exact absurd (eT.mpr mB) cB
    · intro I2 J2 mB mS mI mJ
      exact absurd mS hp
    · intro S' i' I2 J2 mx mS2 my mi mB mS mI mJ mR
      have eS : S' = S := (nI_eq (by omega) (by omega)).mp (by rw [← mx, ← cx])
      subst eS
      rw [eR, mR] at cR
      exact absurd cR.symm (nI_m1n (by omega))
    · intro S' i' w' I2 J2 mx mS2 my mi mB mS mw mI mJ mG mR
      have eS : S' = S := (nI_eq (by omega) (by omega)).mp (by rw [← mx, ← cx])
      subst eS
      have ei : i' = i := (nI_eq (by omega) (by omega)).mp (by rw [← my, ← cy])
      subst ei
      have ew : w' = w := (nI_eq (by omega) (by omega)).mp (by rw [← mR, ← cR, eR])
      subst ew
      have ho := (gb_ok mG).1
      rw [ht8]
      rw [ht8] at mG
      rw [← told_lw (by have := r.yI ho.1 t40 i'; rw [this.1]; omega) (by rw [(r.bI ho.1).1]; exact (r.b0 ho).1), ← a.y r hp ho t40, ← a.b r hp ho]
      exact k _ _ _ (R1.v (mr_v mI) (mr_w mJ)) (Nat.le_add_right _ _)
theorem st_slack {G : aw_G} {d : Nat} {Ω : aw_O} {I : aw_MI} {J : aw_MJ} {Q : Int64 → aw_O → aw_MI → aw_MJ → Prop} {x y v : Int32} (R : Rel Ω I J) (hd : 160 ≤ d) (hQ : ∀ z I1 J1, pr_L G MX8_slack d 0 0 [.ref (aw_ad G 65), .int x, .int y, .int v] z Ω I1 J1 → Q z Ω I1 J1) : aw_Call G MX7_slack d 0 0 [.ref (aw_ad G 0), .int x, .int y, .int v] Ω I J (aw_QL Q) := by
  obtain ⟨n, m, t, ⟨hM, hW, hx⟩, ⟨n1, n3, m6, t40⟩, ⟨hn, ht, hm⟩, hF⟩ := R.f
  have h64 : 2 ^ m ≤ 2 ^ 6 := Nat.pow_le_pow_right (by decide) m6
  have eT : (sp_set x m = 0 ∨ sp_var y m = 0 ∨ sp_part v = 0) ↔ (sp_var x (2 ^ m) = 0 ∨ sp_var y m = 0 ∨ sp_part v = 0) := by rw [set_eq m6]
  refine tX7_slack hM hn n3 hm m6 ht (by omega) ?_ ?_ ?_ ?_
  · intro cB
    refine hQ _ _ _ (fun Q' k => ?_)
    obtain ⟨⟨hn8, ht8, hm8⟩, a, r⟩ := hF I (vI.r I)
    have R1 : Rel Ω I J := R
    have eP : sp_hl (I 2) 1 n = rp_ac (I 66) n := a.hl r
    refine tX8_slack hW hn8 n3 hm8 m6 (by omega) ?_ ?_ ?_ ?_
    · intro mB
      exact k _ _ _ R1 (Nat.le_add_right _ _)
    · intro I2 J2 mB mS mI mJ
      exact absurd (eT.mp cB) mB
    · intro S' i' I2 J2 mx mS2 my mi mB mS mI mJ mR
      exact absurd (eT.mp cB) mB
    · intro S' i' w' I2 J2 mx mS2 my mi mB mS mw mI mJ mG mR
      exact absurd (eT.mp cB) mB
  · intro cB cS
    refine hQ _ _ _ (fun Q' k => ?_)
    obtain ⟨⟨hn8, ht8, hm8⟩, a, r⟩ := hF I (vI.r I)
    have R1 : Rel Ω I J := R
    have eP : sp_hl (I 2) 1 n = rp_ac (I 66) n := a.hl r
    refine tX8_slack hW hn8 n3 hm8 m6 (by omega) ?_ ?_ ?_ ?_
    · intro mB
      exact absurd (eT.mpr mB) cB
    · intro I2 J2 mB mS mI mJ
      exact k _ _ _ (R1.v (mr_v mI) (mr_w mJ)) (Nat.le_add_right _ _)
    · intro S' i' I2 J2 mx mS2 my mi mB mS mI mJ mR
      exact absurd (by rw [← eP]; exact cS) mS
    · intro S' i' w' I2 J2 mx mS2 my mi mB mS mw mI mJ mG mR
      exact absurd (by rw [← eP]; exact cS) mS
  · intro S i I1 J1 cx cS2 cy ci cB cS cI cJ cR
    refine hQ _ _ _ (fun Q' k => ?_)
    obtain ⟨⟨hn8, ht8, hm8⟩, a, r⟩ := hF I1 (sv_v22 cI)
    have R1 : Rel Ω I1 J1 := R.v (sv_v22 cI) (sv_w22 cJ)
    have eP : sp_hl (I 2) 1 n = rp_ac (I1 66) n := a.hl r
    have hp : ¬ rp_ac (I1 66) n = 0 := by rw [← eP]; exact cS
    have eR : cx_res I n m t S = rx_res I1 n m S := by
      unfold cx_res rx_res
      rw [ht8]
      exact a.find r hp t40 _ _ _ _
    refine tX8_slack hW hn8 n3 hm8 m6 (by omega) ?_ ?_ ?_ ?_
    · intro mB
      exact absurd (eT.mpr mB) cB
    · intro I2 J2 mB mS mI mJ
      exact absurd mS hp
    · intro S' i' I2 J2 mx mS2 my mi mB mS mI mJ mR
      exact k _ _ _ (R1.v (mr_v mI) (mr_w mJ)) (Nat.le_add_right _ _)
    · intro S' i' w' I2 J2 mx mS2 my mi mB mS mw mI mJ mG mR
      have eS : S' = S := (nI_eq (by omega) (by omega)).mp (by rw [← mx, ← cx])
      subst eS
      rw [eR, mR] at cR
      exact absurd cR (nI_m1n (by omega))
  · intro S i w I1 J1 cx cS2 cy ci cB cS cw cI cJ cG cR
    refine hQ _ _ _ (fun Q' k => ?_)
    obtain ⟨⟨hn8, ht8, hm8⟩, a, r⟩ := hF I1 (sv_v22 cI)
    have R1 : Rel Ω I1 J1 := R.v (sv_v22 cI) (sv_w22 cJ)
    have eP : sp_hl (I 2) 1 n = rp_ac (I1 66) n := a.hl r
    have hp : ¬ rp_ac (I1 66) n = 0 := by rw [← eP]; exact cS
    have eR : cx_res I n m t S = rx_res I1 n m S := by
      unfold cx_res rx_res
      rw [ht8]
      exact a.find r hp t40 _ _ _ _
    refine tX8_slack hW hn8 n3 hm8 m6 (by omega) ?_ ?_ ?_ ?_
    · intro mB
      exact absurd (eT.mpr mB) cB
    · intro I2 J2 mB mS mI mJ
      exact absurd mS hp
    · intro S' i' I2 J2 mx mS2 my mi mB mS mI mJ mR
      have eS : S' = S := (nI_eq (by omega) (by omega)).mp (by rw [← mx, ← cx])
      subst eS
      rw [eR, mR] at cR
      exact absurd cR.symm (nI_m1n (by omega))
    · intro S' i' w' I2 J2 mx mS2 my mi mB mS mw mI mJ mG mR
      have eS : S' = S := (nI_eq (by omega) (by omega)).mp (by rw [← mx, ← cx])
      subst eS
      have ei : i' = i := (nI_eq (by omega) (by omega)).mp (by rw [← my, ← cy])
      subst ei
      have ew : w' = w := (nI_eq (by omega) (by omega)).mp (by rw [← mR, ← cR, eR])
      subst ew
      have ho := (gb_ok mG).1
      rw [ht8]
      rw [ht8] at mG
      rw [← told_lw (by have := r.slI ho.1 t40 (l := i') (by omega); rw [this.1]; omega) (by rw [(r.bI ho.1).1]; exact (r.b0 ho).1), ← a.slx r hp ho t40 (by omega), ← a.b r hp ho]
      exact k _ _ _ (R1.v (mr_v mI) (mr_w mJ)) (Nat.le_add_right _ _)
theorem st_held {G : aw_G} {d : Nat} {Ω : aw_O} {I : aw_MI} {J : aw_MJ} {Q : Int32 → aw_O → aw_MI → aw_MJ → Prop} {x : Int32} (R : Rel Ω I J) (hd : 160 ≤ d) (hQ : ∀ z I1 J1, pr_I G MX8_held d 0 0 [.ref (aw_ad G 65), .int x] z Ω I1 J1 → Q z Ω I1 J1) : aw_Call G MX7_held d 0 0 [.ref (aw_ad G 0), .int x] Ω I J (aw_QI Q) := by
  obtain ⟨n, m, t, ⟨hM, hW, hx⟩, ⟨n1, n3, m6, t40⟩, ⟨hn, ht, hm⟩, hF⟩ := R.f
  have h64 : 2 ^ m ≤ 2 ^ 6 := Nat.pow_le_pow_right (by decide) m6
  have eT : (sp_set x m = 0) ↔ (sp_var x (2 ^ m) = 0) := set_eq m6
  refine tX7_held hM hn n3 hm m6 ht (by omega) ?_ ?_ ?_ ?_
  · intro cB
    refine hQ _ _ _ (fun Q' k => ?_)
    obtain ⟨⟨hn8, ht8, hm8⟩, a, r⟩ := hF I (vI.r I)
    have R1 : Rel Ω I J := R
    have eP : sp_hl (I 2) 1 n = rp_ac (I 66) n := a.hl r
    refine tX8_held hW hn8 n3 hm8 m6 (by omega) ?_ ?_ ?_ ?_
    · intro mB
      exact k _ _ _ R1 (Nat.le_add_right _ _)
    · intro I2 J2 mB mS mI mJ
      exact absurd (eT.mp cB) mB
    · intro S' I2 J2 mx mS2 mB mS mI mJ mR
      exact absurd (eT.mp cB) mB
    · intro S' w' I2 J2 mx mS2 mB mS mw mI mJ mG mR
      exact absurd (eT.mp cB) mB
  · intro cB cS
    refine hQ _ _ _ (fun Q' k => ?_)
    obtain ⟨⟨hn8, ht8, hm8⟩, a, r⟩ := hF I (vI.r I)
    have R1 : Rel Ω I J := R
    have eP : sp_hl (I 2) 1 n = rp_ac (I 66) n := a.hl r
    refine tX8_held hW hn8 n3 hm8 m6 (by omega) ?_ ?_ ?_ ?_
    · intro mB
      exact absurd (eT.mpr mB) cB
    · intro I2 J2 mB mS mI mJ
      exact k _ _ _ (R1.v (mr_v mI) (mr_w mJ)) (Nat.le_add_right _ _)
    · intro S' I2 J2 mx mS2 mB mS mI mJ mR
      exact absurd (by rw [← eP]; exact cS) mS
    · intro S' w' I2 J2 mx mS2 mB mS mw mI mJ mG mR
      exact absurd (by rw [← eP]; exact cS) mS
  · intro S I1 J1 cx cS2 cB cS cI cJ cR
    refine hQ _ _ _ (fun Q' k => ?_)
    obtain ⟨⟨hn8, ht8, hm8⟩, a, r⟩ := hF I1 (sv_v22 cI)
    have R1 : Rel Ω I1 J1 := R.v (sv_v22 cI) (sv_w22 cJ)
    have eP : sp_hl (I 2) 1 n = rp_ac (I1 66) n := a.hl r
    have hp : ¬ rp_ac (I1 66) n = 0 := by rw [← eP]; exact cS
    have eR : cx_res I n m t S = rx_res I1 n m S := by
      unfold cx_res rx_res
      rw [ht8]
      exact a.find r hp t40 _ _ _ _
    refine tX8_held hW hn8 n3 hm8 m6 (by omega) ?_ ?_ ?_ ?_
    · intro mB
      exact absurd (eT.mpr mB) cB
    · intro I2 J2 mB mS mI mJ
      exact absurd mS hp
    · intro S' I2 J2 mx mS2 mB mS mI mJ mR
      exact k _ _ _ (R1.v (mr_v mI) (mr_w mJ)) (Nat.le_add_right _ _)
    · intro S' w' I2 J2 mx mS2 mB mS mw mI mJ mG mR
      have eS : S' = S := (nI_eq (by omega) (by omega)).mp (by rw [← mx, ← cx])
      subst eS
      rw [eR, mR] at cR
      exact absurd cR (nI_m1n (by omega))
  · intro S w I1 J1 cx cS2 cB cS cw cI cJ cG cR
    refine hQ _ _ _ (fun Q' k => ?_)
    obtain ⟨⟨hn8, ht8, hm8⟩, a, r⟩ := hF I1 (sv_v22 cI)
    have R1 : Rel Ω I1 J1 := R.v (sv_v22 cI) (sv_w22 cJ)
    have eP : sp_hl (I 2) 1 n = rp_ac (I1 66) n := a.hl r
    have hp : ¬ rp_ac (I1 66) n = 0 := by rw [← eP]; exact cS
    have eR : cx_res I n m t S = rx_res I1 n m S := by
      unfold cx_res rx_res
      rw [ht8]
      exact a.find r hp t40 _ _ _ _
    refine tX8_held hW hn8 n3 hm8 m6 (by omega) ?_ ?_ ?_ ?_
    · intro mB
      exact absurd (eT.mpr mB) cB
    · intro I2 J2 mB mS mI mJ
      exact absurd mS hp
    · intro S' I2 J2 mx mS2 mB mS mI mJ mR
      have eS : S' = S := (nI_eq (by omega) (by omega)).mp (by rw [← mx, ← cx])
      subst eS
      rw [eR, mR] at cR
      exact absurd cR.symm (nI_m1n (by omega))
    · intro S' w' I2 J2 mx mS2 mB mS mw mI mJ mG mR
      have eS : S' = S := (nI_eq (by omega) (by omega)).mp (by rw [← mx, ← cx])
      subst eS
      have ew : w' = w := (nI_eq (by omega) (by omega)).mp (by rw [← mR, ← cR, eR])
      subst ew
      have ho := (gb_ok mG).1
      rw [ht8]
      rw [← a.h r hp ho t40]
      exact k _ _ _ (R1.v (mr_v mI) (mr_w mJ)) (Nat.le_add_right _ _)
theorem st_tight {G : aw_G} {d : Nat} {Ω : aw_O} {I : aw_MI} {J : aw_MJ} {Q : Int32 → aw_O → aw_MI → aw_MJ → Prop} {x : Int32} (R : Rel Ω I J) (hd : 160 ≤ d) (hQ : ∀ z I1 J1, pr_I G MX8_tight d 0 0 [.ref (aw_ad G 65), .int x] z Ω I1 J1 → Q z Ω I1 J1) : aw_Call G MX7_tight d 0 0 [.ref (aw_ad G 0), .int x] Ω I J (aw_QI Q) := by
  obtain ⟨n, m, t, ⟨hM, hW, hx⟩, ⟨n1, n3, m6, t40⟩, ⟨hn, ht, hm⟩, hF⟩ := R.f
  have h64 : 2 ^ m ≤ 2 ^ 6 := Nat.pow_le_pow_right (by decide) m6
  have eT : (sp_set x m = 0) ↔ (sp_var x (2 ^ m) = 0) := set_eq m6
  refine tX7_tight hM hn n3 hm m6 ht (by omega) ?_ ?_ ?_ ?_
  · intro cB
    refine hQ _ _ _ (fun Q' k => ?_)
    obtain ⟨⟨hn8, ht8, hm8⟩, a, r⟩ := hF I (vI.r I)
    have R1 : Rel Ω I J := R
    have eP : sp_hl (I 2) 1 n = rp_ac (I 66) n := a.hl r
    refine tX8_tight hW hn8 n3 hm8 m6 (by omega) ?_ ?_ ?_ ?_
    · intro mB
      exact k _ _ _ R1 (Nat.le_add_right _ _)
    · intro I2 J2 mB mS mI mJ
      exact absurd (eT.mp cB) mB
    · intro S' I2 J2 mx mS2 mB mS mI mJ mR
      exact absurd (eT.mp cB) mB
    · intro S' w' I2 J2 mx mS2 mB mS mw mI mJ mG mR
      exact absurd (eT.mp cB) mB
  · intro cB cS
    refine hQ _ _ _ (fun Q' k => ?_)
    obtain ⟨⟨hn8, ht8, hm8⟩, a, r⟩ := hF I (vI.r I)
    have R1 : Rel Ω I J := R
    have eP : sp_hl (I 2) 1 n = rp_ac (I 66) n := a.hl r
    refine tX8_tight hW hn8 n3 hm8 m6 (by omega) ?_ ?_ ?_ ?_
    · intro mB
      exact absurd (eT.mpr mB) cB
    · intro I2 J2 mB mS mI mJ
      exact k _ _ _ (R1.v (mr_v mI) (mr_w mJ)) (Nat.le_add_right _ _)
    · intro S' I2 J2 mx mS2 mB mS mI mJ mR
      exact absurd (by rw [← eP]; exact cS) mS
    · intro S' w' I2 J2 mx mS2 mB mS mw mI mJ mG mR
      exact absurd (by rw [← eP]; exact cS) mS
  · intro S I1 J1 cx cS2 cB cS cI cJ cR
    refine hQ _ _ _ (fun Q' k => ?_)
    obtain ⟨⟨hn8, ht8, hm8⟩, a, r⟩ := hF I1 (sv_v22 cI)
    have R1 : Rel Ω I1 J1 := R.v (sv_v22 cI) (sv_w22 cJ)
    have eP : sp_hl (I 2) 1 n = rp_ac (I1 66) n := a.hl r
    have hp : ¬ rp_ac (I1 66) n = 0 := by rw [← eP]; exact cS
    have eR : cx_res I n m t S = rx_res I1 n m S := by
      unfold cx_res rx_res
      rw [ht8]
      exact a.find r hp t40 _ _ _ _
    refine tX8_tight hW hn8 n3 hm8 m6 (by omega) ?_ ?_ ?_ ?_
    · intro mB
      exact absurd (eT.mpr mB) cB
    · intro I2 J2 mB mS mI mJ
      exact absurd mS hp
    · intro S' I2 J2 mx mS2 mB mS mI mJ mR
      exact k _ _ _ (R1.v (mr_v mI) (mr_w mJ)) (Nat.le_add_right _ _)
    · intro S' w' I2 J2 mx mS2 mB mS mw mI mJ mG mR
      have eS : S' = S := (nI_eq (by omega) (by omega)).mp (by rw [← mx, ← cx])
      subst eS
      rw [eR, mR] at cR
      exact absurd cR (nI_m1n (by omega))
  · intro S w I1 J1 cx cS2 cB cS cw cI cJ cG cR
    refine hQ _ _ _ (fun Q' k => ?_)
    obtain ⟨⟨hn8, ht8, hm8⟩, a, r⟩ := hF I1 (sv_v22 cI)
    have R1 : Rel Ω I1 J1 := R.v (sv_v22 cI) (sv_w22 cJ)
    have eP : sp_hl (I 2) 1 n = rp_ac (I1 66) n := a.hl r
    have hp : ¬ rp_ac (I1 66) n = 0 := by rw [← eP]; exact cS
    have eR : cx_res I n m t S = rx_res I1 n m S := by
      unfold cx_res rx_res
      rw [ht8]
      exact a.find r hp t40 _ _ _ _
    refine tX8_tight hW hn8 n3 hm8 m6 (by omega) ?_ ?_ ?_ ?_
    · intro mB
      exact absurd (eT.mpr mB) cB
    · intro I2 J2 mB mS mI mJ
      exact absurd mS hp
    · intro S' I2 J2 mx mS2 mB mS mI mJ mR
      have eS : S' = S := (nI_eq (by omega) (by omega)).mp (by rw [← mx, ← cx])
      subst eS
      rw [eR, mR] at cR
      exact absurd cR.symm (nI_m1n (by omega))
    · intro S' w' I2 J2 mx mS2 mB mS mw mI mJ mG mR
      have eS : S' = S := (nI_eq (by omega) (by omega)).mp (by rw [← mx, ← cx])
      subst eS
      have ew : w' = w := (nI_eq (by omega) (by omega)).mp (by rw [← mR, ← cR, eR])
      subst ew
      have ho := (gb_ok mG).1
      rw [ht8]
      rw [← a.ti r hp ho t40]
      exact k _ _ _ (R1.v (mr_v mI) (mr_w mJ)) (Nat.le_add_right _ _)

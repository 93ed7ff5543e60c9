/-! THE NEAREST -/
theorem nr_off {I : aw_MI} {x y v : Int32} {a : Nat} (h : a < 15 ∨ 21 < a) : nr_I I x y v a = I a := by
  unfold nr_I
  simp (disch := omega) only [aw_cp_off, aw_up_off, aw_wr_off]
theorem nr_16 {I : aw_MI} {x y v : Int32} {k : Nat} (h : k < 9) : nr_I I x y v 16 k = rp_rd k := by
  unfold nr_I
  rw [aw_up_ne _ _ (by omega), aw_up_ne _ _ (by omega), aw_up_ne _ _ (by omega), aw_wr_in0 _ _ h, sp_rd3 k h]
theorem nr_17 {I : aw_MI} {x y v : Int32} {k : Nat} (h : k < 3) : nr_I I x y v 17 k = -nx_p x y v k := by
  unfold nr_I nx_p
  rcases (by omega : k = 0 ∨ k = 1 ∨ k = 2) with e | e | e <;> subst e
  · rw [aw_up_ne _ _ (by omega), aw_up_ne _ _ (by omega), aw_up_self]; rfl
  · rw [aw_up_ne _ _ (by omega), aw_up_self]; rfl
  · rw [aw_up_self]; rfl
theorem nr_18 {I : aw_MI} {x y v : Int32} {k : Nat} (h : k < 6) : nr_I I x y v 18 k = I 4 k ∧ nr_I I x y v 19 k = I 5 k ∧ nr_I I x y v 20 k = I 6 k := by
  unfold nr_I
  refine ⟨?_, ?_, ?_⟩ <;> simp (disch := omega) only [aw_cp_off, aw_up_off, aw_wr_off, aw_cp_in0]
theorem nr_21 {I : aw_MI} {x y v : Int32} {k : Nat} (h : k < 18) : nr_I I x y v 21 k = I 7 k := by
  unfold nr_I
  simp (disch := omega) only [aw_cp_off, aw_up_off, aw_wr_off, aw_cp_in0]
theorem nx_off {I : aw_MI} {x y v : Int32} {a : Nat} (h1 : a ≠ 66) (h2 : a ≠ 67) : nx_I I x y v a = I a := by
  unfold nx_I
  rw [aw_wr_off _ _ h2, aw_wr_off _ _ h1]
theorem nx_66 {I : aw_MI} {x y v : Int32} {k : Nat} (h : k < 9) : nx_I I x y v 66 k = rp_rd k := by
  unfold nx_I
  rw [aw_wr_off _ _ (by omega), aw_wr_in0 _ _ h]
theorem nx_67 {I : aw_MI} {x y v : Int32} {k : Nat} (h : k < 3) : nx_I I x y v 67 k = -nx_p x y v k := by
  unfold nx_I
  rw [aw_wr_in0 _ _ h]
theorem nx_pb {x y v : Int32} {k : Nat} (hw : ¬ (sp_wi x (nI 99) = 0 ∨ sp_wi y (nI 99) = 0 ∨ sp_wi v (nI 99) = 0)) : (nx_p x y v k).toInt.natAbs ≤ 99 := by
  unfold nx_p
  split
  · exact wi_b (by decide) (fun e => hw (Or.inl e))
  · split
    · exact wi_b (by decide) (fun e => hw (Or.inr (Or.inl e)))
    · exact wi_b (by decide) (fun e => hw (Or.inr (Or.inr e)))
theorem rd_min : ∀ i, i < 3 → 0 < rp_minor rp_rd (i + 1) := by decide +kernel
theorem nx_pd {I : aw_MI} {x y v : Int32} {n : Nat} (hn : n ≤ 3) : ¬ rp_ac (nx_I I x y v 66) n = 0 := by
  have e : ∀ i, i < 3 → rp_minor (nx_I I x y v 66) (i + 1) = rp_minor rp_rd (i + 1) := fun i hi => by
    unfold rp_minor
    rw [dt_c (fun j r hj hr => by rw [nx_66 (by omega)])]
  rw [rp_ac_of (fun i hi => by rw [e i (by omega)]; exact rd_min i (by omega))]
  decide
theorem nr_ag {I I1 : aw_MI} {x y v : Int32} {n m : Nat} (a : ag I I1 1 n m) (h : rg I1 n m) (hw : ¬ (sp_wi x (nI 99) = 0 ∨ sp_wi y (nI 99) = 0 ∨ sp_wi v (nI 99) = 0)) : ag (nr_I I x y v) (nx_I I1 x y v) 15 n m ∧ rg (nx_I I1 x y v) n m := by
  have n1 := h.n1
  have n3 := h.n3
  have m6 := h.m6
  refine ⟨⟨fun r k hr hk => ?_, fun r hr => ?_, fun l hl => ?_, fun l hl => ?_, fun l hl => ?_, fun l i hl hi => ?_⟩, n1, n3, m6, fun r k hr hk => ?_, fun r k hr hk => ?_, fun r hr => ?_, fun l hl => ?_, fun l hl => ?_, fun l i hl hi => ?_⟩
  · rw [nx_66 (by omega), show r * 3 + k = 3 * r + k by omega]
    exact nr_16 (by omega)
  · rw [nx_67 (by omega)]
    exact nr_17 (by omega)
  · rw [nx_off (by omega) (by omega)]
    exact (nr_18 (by omega)).1.trans (a.kd l hl)
  · rw [nx_off (by omega) (by omega)]
    exact (nr_18 (by omega)).2.1.trans (a.ba l hl)
  · rw [nx_off (by omega) (by omega)]
    exact (nr_18 (by omega)).2.2.trans (a.dr l hl)
  · rw [nx_off (by omega) (by omega)]
    exact (nr_21 (by omega)).trans (a.sl l i hl hi)
  · rw [nx_66 (by omega), nx_66 (by omega)]
    exact (rd_ok r (by omega) k (by omega)).1
  · rw [nx_66 (by omega)]
    exact (rd_ok r (by omega) k (by omega)).2
  · have h1 := nx_pb (k := r) hw
    rw [nx_67 (by omega), neg32 (by omega)]
    omega
  · rw [nx_off (by omega) (by omega)]; exact h.ba l hl
  · rw [nx_off (by omega) (by omega)]; exact h.dr l hl
  · rw [nx_off (by omega) (by omega)]; exact h.sl l i hl hi
theorem nr_v {I I' : aw_MI} {x y v : Int32} (h : sv_I 39 (nr_I I x y v) I') : vI I I' := fun a k e => by
  rw [h.1 a (by omega), nr_off (by omega)]
theorem Rel.ext {Ω : aw_O} {I : aw_MI} {J : aw_MJ} {S : aw_S} {q : Nat → Option Nat} (R : Rel Ω I J) : Rel (aw_ext Ω S q) I J := by
  obtain ⟨⟨h1, h2, h3⟩, h4⟩ := R
  refine ⟨⟨h1.ext, h2.ext, ?_⟩, h4⟩
  show 84 ≤ aw_nx Ω + 1
  omega
theorem sq_I {p : Nat → Int32} {n : Nat} (hn : n ≤ 3) (hp : ∀ i, i < n → (p i).toInt.natAbs ≤ 99) : sp_sq p n = Int64.ofInt (dt_sm (fun i => (p i).toInt * (p i).toInt) n) ∧ (dt_sm (fun i => (p i).toInt * (p i).toInt) n).natAbs ≤ n * 9801 := by
  refine ⟨?_, sm_ab (fun i hi => mul_ab (hp i hi) (hp i hi))⟩
  have g : ∀ k, k ≤ n → sp_sq p k = Int64.ofInt (dt_sm (fun i => (p i).toInt * (p i).toInt) k) := by
    intro k
    induction k with
    | zero => intro _; rfl
    | succ k ih =>
      intro hk
      show sp_sq p k + (p k * p k).toInt64 = Int64.ofInt (dt_sm (fun i => (p i).toInt * (p i).toInt) k + (p k).toInt * (p k).toInt)
      have hb := mul_ab (hp k (by omega)) (hp k (by omega))
      have e : p k * p k = Int32.ofInt ((p k).toInt * (p k).toInt) := by rw [Int32.ofInt_mul, Int32.ofInt_toInt]
      rw [ih (by omega), t64, e, o32 (by omega), Int64.ofInt_add]
  exact g n (Nat.le_refl _)
theorem st_nearest {G : aw_G} {d : Nat} {Ω : aw_O} {I : aw_MI} {J : aw_MJ} {Q : Int64 → aw_O → aw_MI → aw_MJ → Prop} {x y v u q : Int32} (R : Rel Ω I J) (hd : 160 ≤ d) (hQ : ∀ z I1 J1, pr_L G MX8_nearest d 1 3 [.ref (aw_ad G 65), .int x, .int y, .int v, .int u, .int q] z Ω I1 J1 → Q z Ω I1 J1) : aw_Call G MX7_nearest d 0 0 [.ref (aw_ad G 0), .int x, .int y, .int v, .int u, .int q] Ω I J (aw_QL Q) := by
  obtain ⟨n, m, t, ⟨hM, hW, hx⟩, ⟨n1, n3, m6, t40⟩, ⟨hn, ht, hm⟩, hF⟩ := R.f
  have h64 : 2 ^ m ≤ 2 ^ 6 := Nat.pow_le_pow_right (by decide) m6
  refine tX7_nearest hM hn n3 hm m6 ht (by omega) ?_ ?_ ?_ ?_
  · intro cB
    obtain ⟨⟨hn8, ht8, hm8⟩, a, r⟩ := hF I (vI.r I)
    refine hQ _ _ _ (fun Q' k => tX8_nearest hW hn8 n3 hm8 m6 hx (by omega) ?_ ?_ ?_)
    · intro _; exact k _ _ _ R (Nat.le_add_right _ _)
    · intro _ _ _ _ _ e; exact absurd (Or.inr cB) e
    · intro _ _ _ _ _ _ e; exact absurd (Or.inr cB) e
  · intro _ cB
    obtain ⟨⟨hn8, ht8, hm8⟩, a, r⟩ := hF I (vI.r I)
    refine hQ _ _ _ (fun Q' k => tX8_nearest hW hn8 n3 hm8 m6 hx (by omega) ?_ ?_ ?_)
    · intro _; exact k _ _ _ R (Nat.le_add_right _ _)
    · intro _ _ _ _ _ e; exact absurd (Or.inl cB) e
    · intro _ _ _ _ _ _ e; exact absurd (Or.inl cB) e
  · intro I1 J1 cB cW cI cJ cR
    obtain ⟨⟨hn8, ht8, hm8⟩, a0, r0⟩ := hF I1 (nr_v cI)
    have R1 : Rel Ω I1 J1 := R.v (nr_v cI) (sv_w39 cJ)
    obtain ⟨a, r⟩ := nr_ag a0 r0 cW
    have hp : ¬ rp_ac (nx_I I1 x y v 66) n = 0 := nx_pd n3
    have e65 : nx_I I1 x y v 65 3 = nI t := by rw [nx_off (by omega) (by omega)]; exact ht8
    have eR : nr_res I n m t x y v = rx_res (nx_I I1 x y v) n m (2 ^ m - 1) := by
      unfold nr_res rx_res
      rw [e65]
      exact a.find r hp t40 _ _ _ _
    rw [eR] at cR
    refine hQ _ _ _ (fun Q' k => tX8_nearest hW hn8 n3 hm8 m6 hx (by omega) ?_ ?_ ?_)
    · intro e; exact absurd e (by rintro (e | e); exact cW e; exact cB e)
    · intro i I2 J2 _ _ _ mI mJ _; exact k _ _ _ (R1.v (ng_v hx mI) (ng_w hx mJ)).ext (Nat.le_refl _)
    · intro i w I2 J2 _ _ _ mw _ _ _ mR; rw [cR] at mR; exact absurd mR.symm (nI_m1n (by omega))
  · intro i w I1 J1 cu ci cB cW cw cI cJ cG cR
    obtain ⟨⟨hn8, ht8, hm8⟩, a0, r0⟩ := hF I1 (nr_v cI)
    have R1 : Rel Ω I1 J1 := R.v (nr_v cI) (sv_w39 cJ)
    obtain ⟨a, r⟩ := nr_ag a0 r0 cW
    have hp : ¬ rp_ac (nx_I I1 x y v 66) n = 0 := nx_pd n3
    have e65 : nx_I I1 x y v 65 3 = nI t := by rw [nx_off (by omega) (by omega)]; exact ht8
    have eR : nr_res I n m t x y v = rx_res (nx_I I1 x y v) n m (2 ^ m - 1) := by
      unfold nr_res rx_res
      rw [e65]
      exact a.find r hp t40 _ _ _ _
    rw [eR] at cR
    refine hQ _ _ _ (fun Q' k => tX8_nearest hW hn8 n3 hm8 m6 hx (by omega) ?_ ?_ ?_)
    · intro e; exact absurd e (by rintro (e | e); exact cW e; exact cB e)
    · intro _ _ _ _ _ _ _ _ mR; rw [cR] at mR; exact absurd mR (nI_m1n (by omega))
    · intro i' w' I2 J2 mu mi _ mw mI mJ mG mR
      have ew : w' = w := (nI_eq (by omega) (by omega)).mp (by rw [← mR, ← cR])
      have ei : i' = i := (nI_eq (by omega) (by omega)).mp (by rw [← mu, ← cu])
      subst ew ei
      rw [ht8] at mG ⊢
      have ho := (gb_ok mG).1
      rw [← told_lw (by have := r.vI ho.1 t40 (c := i') (by omega); rw [this.1]; omega) (by rw [(r.bI ho.1).1]; exact (r.b0 ho).1), ← a.v r hp ho t40 (by omega), ← a.b r hp ho]
      exact k _ _ _ (R1.v (ng_v hx mI) (ng_w hx mJ)).ext (Nat.le_refl _)
theorem st_distance {G : aw_G} {d : Nat} {Ω : aw_O} {I : aw_MI} {J : aw_MJ} {Q : Int64 → aw_O → aw_MI → aw_MJ → Prop} {x y v q : Int32} (R : Rel Ω I J) (hd : 160 ≤ d) (hQ : ∀ z I1 J1, pr_L G MX8_distance d 1 3 [.ref (aw_ad G 65), .int x, .int y, .int v, .int q] z Ω I1 J1 → Q z Ω I1 J1) : aw_Call G MX7_distance d 0 0 [.ref (aw_ad G 0), .int x, .int y, .int v, .int q] Ω I J (aw_QL Q) := by
  obtain ⟨n, m, t, ⟨hM, hW, hx⟩, ⟨n1, n3, m6, t40⟩, ⟨hn, ht, hm⟩, hF⟩ := R.f
  have h64 : 2 ^ m ≤ 2 ^ 6 := Nat.pow_le_pow_right (by decide) m6
  refine tX7_distance hM hn n3 hm m6 ht (by omega) ?_ ?_ ?_ ?_
  · intro cB
    obtain ⟨⟨hn8, ht8, hm8⟩, a, r⟩ := hF I (vI.r I)
    refine hQ _ _ _ (fun Q' k => tX8_distance hW hn8 n3 hm8 m6 hx (by omega) ?_ ?_ ?_)
    · intro _; exact k _ _ _ R (Nat.le_add_right _ _)
    · intro _ _ e; exact absurd (Or.inr cB) e
    · intro _ _ _ e; exact absurd (Or.inr cB) e
  · intro _ cB
    obtain ⟨⟨hn8, ht8, hm8⟩, a, r⟩ := hF I (vI.r I)
    refine hQ _ _ _ (fun Q' k => tX8_distance hW hn8 n3 hm8 m6 hx (by omega) ?_ ?_ ?_)
    · intro _; exact k _ _ _ R (Nat.le_add_right _ _)
    · intro _ _ e; exact absurd (Or.inl cB) e
    · intro _ _ _ e; exact absurd (Or.inl cB) e
  · intro I1 J1 cB cW cI cJ cR
    obtain ⟨⟨hn8, ht8, hm8⟩, a0, r0⟩ := hF I1 (nr_v cI)
    have R1 : Rel Ω I1 J1 := R.v (nr_v cI) (sv_w39 cJ)
    obtain ⟨a, r⟩ := nr_ag a0 r0 cW
    have hp : ¬ rp_ac (nx_I I1 x y v 66) n = 0 := nx_pd n3
    have e65 : nx_I I1 x y v 65 3 = nI t := by rw [nx_off (by omega) (by omega)]; exact ht8
    have eR : nr_res I n m t x y v = rx_res (nx_I I1 x y v) n m (2 ^ m - 1) := by
      unfold nr_res rx_res
      rw [e65]
      exact a.find r hp t40 _ _ _ _
    rw [eR] at cR
    refine hQ _ _ _ (fun Q' k => tX8_distance hW hn8 n3 hm8 m6 hx (by omega) ?_ ?_ ?_)
    · intro e; exact absurd e (by rintro (e | e); exact cW e; exact cB e)
    · intro I2 J2 _ mI mJ _; exact k _ _ _ (R1.v (ng_v hx mI) (ng_w hx mJ)).ext (Nat.le_refl _)
    · intro w I2 J2 _ mw _ _ _ mR; rw [cR] at mR; exact absurd mR.symm (nI_m1n (by omega))
  · intro w I1 J1 cB cW cw cI cJ cG cR
    obtain ⟨⟨hn8, ht8, hm8⟩, a0, r0⟩ := hF I1 (nr_v cI)
    have R1 : Rel Ω I1 J1 := R.v (nr_v cI) (sv_w39 cJ)
    obtain ⟨a, r⟩ := nr_ag a0 r0 cW
    have hp : ¬ rp_ac (nx_I I1 x y v 66) n = 0 := nx_pd n3
    have e65 : nx_I I1 x y v 65 3 = nI t := by rw [nx_off (by omega) (by omega)]; exact ht8
    have eR : nr_res I n m t x y v = rx_res (nx_I I1 x y v) n m (2 ^ m - 1) := by
      unfold nr_res rx_res
      rw [e65]
      exact a.find r hp t40 _ _ _ _
    rw [eR] at cR
    refine hQ _ _ _ (fun Q' k => tX8_distance hW hn8 n3 hm8 m6 hx (by omega) ?_ ?_ ?_)
    · intro e; exact absurd e (by rintro (e | e); exact cW e; exact cB e)
    · intro _ _ _ _ _ mR; rw [cR] at mR; exact absurd mR (nI_m1n (by omega))
    · intro w' I2 J2 _ mw mI mJ mG mR
      have ew : w' = w := (nI_eq (by omega) (by omega)).mp (by rw [← mR, ← cR])
      subst ew
      rw [ht8] at mG ⊢
      have ho := (gb_ok mG).1
      have hS := sq_I (p := nx_p x y v) n3 (fun i _ => nx_pb cW)
      have hw1 := r.woI ho.1 t40
      have hb1 := r.bI ho.1
      have hb0 := (r.b0 ho).1
      have hsq : sp_sq (nr_I I x y v 17) n = sp_sq (nx_p x y v) n := by
        have g : ∀ k, k ≤ n → sp_sq (nr_I I x y v 17) k = sp_sq (nx_p x y v) k := by
          intro k
          induction k with
          | zero => intro _; rfl
          | succ k ih =>
            intro hk
            unfold sp_sq
            rw [ih (by omega), nr_17 (by omega), show -nx_p x y v k * -nx_p x y v k = nx_p x y v k * nx_p x y v k by grind]
        exact g n (Nat.le_refl _)
      have hbound : (rx_wo (nx_I I1 x y v) n m w' (nI t) + sp_sq (nx_p x y v) n * rx_b (nx_I I1 x y v) n m w').toInt.natAbs < 2 ^ 63 := by
        have e : rx_wo (nx_I I1 x y v) n m w' (nI t) + sp_sq (nx_p x y v) n * rx_b (nx_I I1 x y v) n m w' = Int64.ofInt (ex_w (nx_I I1 x y v) n m w' t + dt_sm (fun i => (nx_p x y v i).toInt * (nx_p x y v i).toInt) n * ex_b (nx_I I1 x y v) n m w') := by
          rw [Int64.ofInt_add, Int64.ofInt_mul, ← hw1.1, ← hb1.1, Int64.ofInt_toInt, Int64.ofInt_toInt, hS.1]
        have b1 : (dt_sm (fun i => (nx_p x y v i).toInt * (nx_p x y v i).toInt) n * ex_b (nx_I I1 x y v) n m w').natAbs ≤ 29403 * 2 ^ 31 := mul_ab (by have := hS.2; omega) (by omega)
        rw [e, ofI_t (by omega)]
        omega
      rw [← told_lw hbound (by rw [hb1.1]; exact hb0), ← a.wo r hp ho t40, ← a.b r hp ho, ← hsq]
      exact k _ _ _ (R1.v (ng_v hx mI) (ng_w hx mJ)).ext (Nat.le_refl _)

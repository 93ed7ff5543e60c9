/-! THE BOOK'S LAST EIGHT -/
theorem sm64 : ∀ k, k < 8 → (((nI (8 * k)).toInt64 &&& 63).toBitVec.smod 64).toNat = 8 * k := by decide +kernel
theorem by8_b (x : Int64) {k : Nat} (hk : k < 8) (i : Nat) (hi : i < 8) : (x >>> ((nI (8 * k)).toInt64 &&& 63)).toInt32.toInt8.toBitVec.getLsbD i = x.toBitVec.getLsbD (8 * k + i) := by
  rw [Int32.toBitVec_toInt8, Int64.toBitVec_toInt32, Int64.toBitVec_shiftRight]
  show (BitVec.signExtend 8 (BitVec.signExtend 32 (x.toBitVec.sshiftRight (((nI (8 * k)).toInt64 &&& 63).toBitVec.smod 64).toNat))).getLsbD i = _
  simp only [BitVec.getLsbD_signExtend, BitVec.getLsbD_sshiftRight, sm64 k hk]
  have h1 : i < 32 := by omega
  have h2 : i < 64 := by omega
  have h3 : 8 * k + i < 64 := by omega
  simp [hi, h1, h2, h3]
theorem m255a : ∀ j, j < 32 → 8 ≤ j → (nI 255).toBitVec.getLsbD j = false := by decide +kernel
theorem m255 (j : Nat) (h : 8 ≤ j) : (nI 255).toBitVec.getLsbD j = false := by
  by_cases e : j < 32
  · exact m255a j e h
  · exact BitVec.getLsbD_of_ge _ _ (by omega)
theorem by8_s {x : Int64} {v : Int32} {k : Nat} (hk : k < 7) : by8 (x <<< ((nI 8).toInt64 &&& 63) ||| (v &&& nI 255).toInt64) (k + 1) = by8 x k := by
  unfold by8
  congr 1
  refine Int8.toBitVec_inj.mp (BitVec.eq_of_getLsbD_eq (fun i hi => ?_))
  rw [by8_b _ (by omega) i hi, by8_b _ (by omega) i hi, Int64.toBitVec_or, Int64.toBitVec_shiftLeft, BitVec.getLsbD_or]
  rw [show (x.toBitVec <<< ((nI 8).toInt64 &&& 63).toBitVec.smod 64) = x.toBitVec <<< 8 from rfl, BitVec.getLsbD_shiftLeft]
  have c : (v &&& nI 255).toInt64.toBitVec.getLsbD (8 * (k + 1) + i) = false := by
    rw [Int32.toBitVec_toInt64, Int32.toBitVec_and, BitVec.getLsbD_signExtend, BitVec.getLsbD_and, m255 _ (by omega), BitVec.msb_and, show (nI 255).toBitVec.msb = false from rfl]
    simp
  rw [c]
  have h3 : 8 * (k + 1) + i < 64 := by omega
  have h4 : ¬ 8 * (k + 1) + i < 8 := by omega
  simp [h3, h4, show 8 * (k + 1) + i - 8 = 8 * k + i by omega]
theorem by8_v : ∀ w, w < 65 → ((if w = 64 then (-1 : Int32) else nI w) &&& nI 255).toInt64.toInt32.toInt8.toInt32 = if w = 64 then (-1 : Int32) else nI w := by decide +kernel
theorem by8_0 {x : Int64} {v : Int32} (hv : v = -1 ∨ ∃ w, w < 64 ∧ v = nI w) : by8 (x <<< ((nI 8).toInt64 &&& 63) ||| (v &&& nI 255).toInt64) 0 = v := by
  have e : (v &&& nI 255).toInt64.toInt32.toInt8.toInt32 = v := by
    rcases hv with e | ⟨w, hw, e⟩
    · have h := by8_v 64 (by omega)
      rw [if_pos rfl] at h
      rw [e]; exact h
    · have h := by8_v w (by omega)
      rw [if_neg (by omega)] at h
      rw [e]; exact h
  rw [← e]
  unfold by8
  congr 1
  refine Int8.toBitVec_inj.mp (BitVec.eq_of_getLsbD_eq (fun i hi => ?_))
  rw [by8_b _ (by omega) i hi, Int64.toBitVec_or, Int64.toBitVec_shiftLeft, BitVec.getLsbD_or]
  rw [show (x.toBitVec <<< ((nI 8).toInt64 &&& 63).toBitVec.smod 64) = x.toBitVec <<< 8 from rfl, BitVec.getLsbD_shiftLeft, e]
  have h2 := by8_b (v &&& nI 255).toInt64 (k := 0) (by omega) i hi
  rw [show ((v &&& nI 255).toInt64 >>> ((nI (8 * 0)).toInt64 &&& 63)) = (v &&& nI 255).toInt64 >>> 0 from rfl, Int64.shiftRight_zero] at h2
  rw [h2]
  have h4 : 8 * 0 + i < 8 := by omega
  simp [h4, hi]
theorem Rel.f2 {Ω : aw_O} {I : aw_MI} {J : aw_MJ} (R : Rel Ω I J) : ∃ n m t, (aw_main Ω 0 ∧ aw_model Ω 65 ∧ 84 ≤ aw_nx Ω) ∧ (1 ≤ n ∧ n ≤ 3 ∧ m ≤ 6 ∧ t ≤ 40) ∧ (I 1 0 = nI n ∧ I 1 1 = nI t ∧ I 1 2 = nI m) ∧ ∀ I1 : aw_MI, (∀ a k, (a = 65 ∧ (k = 0 ∨ k = 3 ∨ k = 4)) ∨ (66 ≤ a ∧ a ≤ 68) → I1 a k = I a k) → (I1 65 0 = nI n ∧ I1 65 3 = nI t ∧ I1 65 4 = nI m) ∧ ag I I1 1 n m ∧ rg I1 n m := by
  obtain ⟨h1, ⟨n, m, t, h2⟩, -⟩ := R
  refine ⟨n, m, t, h1, h2.1, ⟨h2.2.1.1, h2.2.1.2.1, h2.2.1.2.2.1⟩, fun I1 v => ?_⟩
  have h3 : bw I 1 (I1 65 0) (I1 65 3) (I1 65 4) (I1 66) (I1 67) (I1 68) n m t := bw_c h2 (fun _ _ => rfl) (fun _ _ => rfl) (fun _ _ => rfl) (fun _ _ => ⟨rfl, rfl, rfl⟩) (fun _ _ => rfl) (v _ _ (by omega)) (v _ _ (by omega)) (v _ _ (by omega)) (fun k _ => v _ _ (by omega)) (fun k _ => v _ _ (by omega)) (fun k _ => v _ _ (by omega))
  exact ⟨⟨h3.2.1.2.2.2.1, h3.2.1.2.2.2.2.1, h3.2.1.2.2.2.2.2⟩, bw_ag h3⟩
/-- what was found is noted in both books -/
theorem Rel.note {Ω : aw_O} {I I1 I2 : aw_MI} {J J1 J2 : aw_MJ} {v : Int32} {p : Int64 × Int64} (R : Rel Ω I J) (h1 : bk_P I I1 J J1 v p) (h2 : bq_P I1 I2 J1 J2 v p) (hv : v = -1 ∨ ∃ w, w < 64 ∧ v = nI w) (hp : p.2 = 0 ∨ (0 < p.2 ∧ p.1.toInt.natAbs < 2 ^ 62)) : Rel Ω I2 J2 := by
  obtain ⟨r1, ⟨n, m, t, r2⟩, r3, r4, r5⟩ := R
  obtain ⟨b1, b2, b3, b4, b5, b6⟩ := h1
  obtain ⟨c1, c2, c3, c4, c5, c6, c7, c8⟩ := h2
  have f : ∀ a k, a < 22 ∨ (39 ≤ a ∧ a ≠ 64) → ¬ (a = 65 ∧ (k = 8 ∨ k = 13)) → ¬ (a = 70 ∨ a = 77) → I2 a k = I a k := fun a k e1 e2 e3 => by rw [c1 a k e2 e3, (b1 a e1).1]
  have g : ∀ a k, a = 59 ∨ a = 83 → J2 a k = J a k := fun a k e => by rw [c5 a k (by omega) (by omega), (b1 a (by omega)).2]
  obtain ⟨q1, q2, q3, q4, q5, q6⟩ := r5
  refine ⟨r1, ⟨n, m, t, ?_⟩, ⟨?_, fun e => ?_⟩, fun s hs => ?_, ?_, ?_, ?_, ?_, ?_, fun k hk => ?_⟩
  · exact bw_c r2 (fun k _ => f _ k (by omega) (by omega) (by omega)) (fun k _ => f _ k (by omega) (by omega) (by omega)) (fun k _ => f _ k (by omega) (by omega) (by omega)) (fun k _ => ⟨f _ k (by omega) (by omega) (by omega), f _ k (by omega) (by omega) (by omega), f _ k (by omega) (by omega) (by omega)⟩) (fun k _ => f _ k (by omega) (by omega) (by omega)) (f _ _ (by omega) (by omega) (by omega)) (f _ _ (by omega) (by omega) (by omega)) (f _ _ (by omega) (by omega) (by omega)) (fun k _ => f _ _ (by omega) (by omega) (by omega)) (fun k _ => f _ _ (by omega) (by omega) (by omega)) (fun k _ => f _ _ (by omega) (by omega) (by omega))
  · rw [f 0 8 (by omega) (by omega) (by omega), f 65 6 (by omega) (by omega) (by omega)]; exact r3.1
  · rw [f 0 8 (by omega) (by omega) (by omega)] at e
    obtain ⟨n', m', t', h⟩ := r3.2 e
    exact ⟨n', m', t', bw_c h (fun k _ => f _ k (by omega) (by omega) (by omega)) (fun k _ => f _ k (by omega) (by omega) (by omega)) (fun k _ => f _ k (by omega) (by omega) (by omega)) (fun k _ => ⟨f _ k (by omega) (by omega) (by omega), f _ k (by omega) (by omega) (by omega), f _ k (by omega) (by omega) (by omega)⟩) (fun k _ => f _ k (by omega) (by omega) (by omega)) (f _ _ (by omega) (by omega) (by omega)) (f _ _ (by omega) (by omega) (by omega)) (f _ _ (by omega) (by omega) (by omega)) (fun k _ => f _ _ (by omega) (by omega) (by omega)) (fun k _ => f _ _ (by omega) (by omega) (by omega)) (fun k _ => f _ _ (by omega) (by omega) (by omega))⟩
  · obtain ⟨g1, g2, g3, g4, g5⟩ := r4 s hs
    rw [f 57 s (by omega) (by omega) (by omega), f 81 s (by omega) (by omega) (by omega), f 58 s (by omega) (by omega) (by omega), f 82 s (by omega) (by omega) (by omega)]
    refine ⟨g1, g2, g3, g4, fun i hi => ?_⟩
    rw [g 59 _ (by omega), g 83 _ (by omega)]
    exact g5 i hi
  · rw [c1 64 0 (by omega) (by omega), b2, c4, q1, (b1 65 (by omega)).1]
  · rw [c5 64 1 (by omega) (by omega), b3, c6, q2, (b1 65 (by omega)).2]
  · rw [c5 64 2 (by omega) (by omega), b5, c7]
  · rw [c5 64 3 (by omega) (by omega), b6, c8]
  · rw [c8, c7]; exact hp
  · rw [c5 64 4 (by omega) (by omega), b4]
    cases k with
    | zero => rw [by8_0 hv, c2]
    | succ k => rw [by8_s (by omega), c3 k (by omega), (b1 70 (by omega)).1, q6 k (by omega)]
theorem st_solve {G : aw_G} {d : Nat} {Ω : aw_O} {I : aw_MI} {J : aw_MJ} {Q : Int32 → aw_O → aw_MI → aw_MJ → Prop} (R : Rel Ω I J) (hd : 160 ≤ d) (hQ : ∀ z I1 J1, pr_I G MX8_solve d 0 0 [.ref (aw_ad G 65)] z Ω I1 J1 → Q z Ω I1 J1) : aw_Call G MX7_solve d 0 0 [.ref (aw_ad G 0)] Ω I J (aw_QI Q) := by
  obtain ⟨n, m, t, ⟨hM, hW, hx⟩, ⟨n1, n3, m6, t40⟩, ⟨hn, ht, hm⟩, hF⟩ := R.f2
  obtain ⟨q1, q2, q3, q4, q5, q6⟩ := R.2.2.2.2
  have h64 : 2 ^ m ≤ 2 ^ 6 := Nat.pow_le_pow_right (by decide) m6
  have hb : ∀ I1, rg I1 n m → ∀ w, w < 2 ^ m → ¬ rp_ac (I1 66) n = 0 → rx_gb I1 n m (nI (2 ^ m - 1)) (I1 65 3) w = true → 0 < 2 * rx_b I1 n m w := fun I1 r w _ _ g => by
    have h1 := r.b2 (gb_ok g).1
    rw [Int64.lt_iff_toInt_lt, h1.1]
    exact h1.2
  have hl0 : J 65 12 = 0 ∨ 0 < J 65 12 := by
    rcases q5 with e | e
    · exact Or.inl e
    · exact Or.inr e.1
  refine tX7_solve hM hn n3 hm m6 ht (by omega) ?_ ?_ ?_
  · intro cS
    obtain ⟨⟨hn8, ht8, hm8⟩, a, r⟩ := hF I (fun _ _ _ => rfl)
    have eP : sp_hl (I 2) 1 n = rp_ac (I 66) n := a.hl r
    refine hQ _ _ _ (fun Q' k => tX8_solve hW hn8 n3 hm8 m6 hd (hb I r) hl0 ?_ ?_ ?_)
    · intro _ _ _ mI mJ; exact k _ _ _ (R.v (mr_v mI) (mr_w mJ)) (Nat.le_add_right _ _)
    · intro _ _ e; exact absurd (by rw [← eP]; exact cS) e
    · intro _ _ _ e; exact absurd (by rw [← eP]; exact cS) e
  · intro I1 J1 cS cR cP
    have fI : ∀ a k, (a = 65 ∧ (k = 0 ∨ k = 3 ∨ k = 4)) ∨ (66 ≤ a ∧ a ≤ 68) → I1 a k = I a k := fun a k e => by rw [(cP.1 a (by omega)).1]
    have eJ : J1 65 = J 65 := (cP.1 65 (by omega)).2
    obtain ⟨⟨hn8, ht8, hm8⟩, a, r⟩ := hF I1 fI
    have eP : sp_hl (I 2) 1 n = rp_ac (I1 66) n := a.hl r
    have hp : ¬ rp_ac (I1 66) n = 0 := by rw [← eP]; exact cS
    have eR : cx_res I n m t (2 ^ m - 1) = rx_res I1 n m (2 ^ m - 1) := by
      unfold cx_res rx_res
      rw [ht8]
      exact a.find r hp t40 _ _ _ _
    rw [eR] at cR
    refine hQ _ _ _ (fun Q' k => tX8_solve hW hn8 n3 hm8 m6 hd (hb I1 r) (by rw [eJ]; exact hl0) ?_ ?_ ?_)
    · intro _ _ e; exact absurd e hp
    · intro I2 J2 _ _ mP
      rw [eJ, ← q3, ← q4] at mP
      exact k _ _ _ (R.note cP mP (Or.inl rfl) (by rw [q3, q4]; exact q5)) (Nat.le_add_right _ _)
    · intro w _ _ _ mw _ mR; rw [cR] at mR; exact absurd mR.symm (nI_m1n (by omega))
  · intro w I1 J1 cS cw cG cR cP
    have fI : ∀ a k, (a = 65 ∧ (k = 0 ∨ k = 3 ∨ k = 4)) ∨ (66 ≤ a ∧ a ≤ 68) → I1 a k = I a k := fun a k e => by rw [(cP.1 a (by omega)).1]
    have eJ : J1 65 = J 65 := (cP.1 65 (by omega)).2
    obtain ⟨⟨hn8, ht8, hm8⟩, a, r⟩ := hF I1 fI
    have eP : sp_hl (I 2) 1 n = rp_ac (I1 66) n := a.hl r
    have hp : ¬ rp_ac (I1 66) n = 0 := by rw [← eP]; exact cS
    have eR : cx_res I n m t (2 ^ m - 1) = rx_res I1 n m (2 ^ m - 1) := by
      unfold cx_res rx_res
      rw [ht8]
      exact a.find r hp t40 _ _ _ _
    rw [eR] at cR
    refine hQ _ _ _ (fun Q' k => tX8_solve hW hn8 n3 hm8 m6 hd (hb I1 r) (by rw [eJ]; exact hl0) ?_ ?_ ?_)
    · intro _ _ e; exact absurd e hp
    · intro _ _ _ mR; rw [cR] at mR; exact absurd mR (nI_m1n (by omega))
    · intro w' I2 J2 _ mw mG mR mP
      have ew : w' = w := (nI_eq (by omega) (by omega)).mp (by rw [← mR, ← cR])
      subst ew
      rw [ht8] at mG mP
      have ho := (gb_ok mG).1
      have hb2 := r.b2 ho
      have hbp : 0 < 2 * rx_b I1 n m w' := by
        rw [Int64.lt_iff_toInt_lt, hb2.1]
        exact hb2.2
      have hwo := r.woI ho.1 t40
      have hwb : (rx_wo I1 n m w' (nI t)).toInt.natAbs < 2 ^ 62 := by omega
      rw [eJ, ← q3, ← q4] at mP
      rw [a.wo r hp ho t40, a.b r hp ho] at cP
      have e : sp_off (J 64 2, J 64 3) (rx_wo I1 n m w' (nI t)) (2 * rx_b I1 n m w') = sp_ofR (J 64 2, J 64 3) (rx_wo I1 n m w' (nI t)) (2 * rx_b I1 n m w') := by
        unfold sp_off sp_ofR
        by_cases c : J 64 3 = 0
        · rw [if_pos c, if_pos c]
        · rw [if_neg c, if_neg c]
          have hpos : 0 < J 64 3 := by
            rcases q5 with e | e
            · rw [q4] at c; exact absurd e c
            · rw [q4]; exact e.1
          rw [less_eq hbp hpos]
      rw [← e] at mP
      refine k _ _ _ (R.note cP mP (Or.inr ⟨w', by omega, rfl⟩) ?_) (Nat.le_add_right _ _)
      unfold sp_off
      by_cases c : J 64 3 = 0
      · rw [if_pos c]
        exact Or.inr ⟨hbp, hwb⟩
      · rw [if_neg c]
        split
        · rw [q3, q4]; exact q5
        · exact Or.inr ⟨hbp, hwb⟩

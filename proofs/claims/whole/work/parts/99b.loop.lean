/-! THE LAW'S LOOP -/
theorem and63 (x : Int32) : ∃ q, q < 64 ∧ x &&& nI 63 = nI q := by
  refine ⟨(x &&& nI 63).toBitVec.toNat, ?_, ?_⟩
  · rw [Int32.toBitVec_and, BitVec.toNat_and]
    have h : (nI 63).toBitVec.toNat = 63 := rfl
    rw [h]
    have := Nat.and_le_right (n := x.toBitVec.toNat) (m := 63)
    omega
  · refine Int32.toBitVec_inj.mp ?_
    show _ = BitVec.ofNat 32 _
    rw [BitVec.ofNat_toNat, BitVec.setWidth_eq]
theorem lo_tab {G : aw_G} {b L i k n : Nat} {xs : Nat → Int32} {Ω : aw_O} {I : aw_MI} {J : aw_MJ} (R : Rel Ω I J) (hi : i + 6 ≤ L) (hL : L ≤ 3072) (hk : k + 1 ≤ 600000) (hn : n + 3 ≤ 7302249) (K : ∀ Ω' I' J' k' n', Rel Ω' I' J' → k' ≤ k + 1 → n' ≤ n + 3 → AW G (mL b L xs) 0 1000 600000 7302249 (aw_QI lQ) Ω' I' J' k' n' [.ref b, .ref (aw_ad G 0), .ref (aw_ad G 65), .int (nI i)] 1374 []) (x : Int32) : AW G (mL b L xs) 0 1000 600000 7302249 (aw_QI lQ) Ω I J k n [.ref b, .ref (aw_ad G 0), .ref (aw_ad G 65), .int (nI i)] 33 [.int (x &&& nI 63)] := by
  obtain ⟨q, hq, e⟩ := and63 x
  rw [e]
  have et : (nI q).toInt = q := nI_toInt (by omega)
  rcases (by omega : q = 0 ∨ q = 1 ∨ q = 2 ∨ q = 3 ∨ q = 4 ∨ q = 5 ∨ q = 6 ∨ q = 7 ∨ q = 8 ∨ q = 9 ∨ q = 10 ∨ q = 11 ∨ q = 12 ∨ q = 13 ∨ q = 14 ∨ q = 15 ∨ q = 16 ∨ q = 17 ∨ q = 18 ∨ q = 19 ∨ q = 20 ∨ q = 21 ∨ q = 22 ∨ q = 23 ∨ q = 24 ∨ q = 25 ∨ q = 26 ∨ q = 27 ∨ q = 28 ∨ q = 29 ∨ q = 30 ∨ q = 31 ∨ q = 32 ∨ q = 33 ∨ q = 34 ∨ q = 35 ∨ q = 36 ∨ q = 37 ∨ 38 ≤ q) with rfl | rfl | rfl | rfl | rfl | rfl | rfl | rfl | rfl | rfl | rfl | rfl | rfl | rfl | rfl | rfl | rfl | rfl | rfl | rfl | rfl | rfl | rfl | rfl | rfl | rfl | rfl | rfl | rfl | rfl | rfl | rfl | rfl | rfl | rfl | rfl | rfl | rfl | h38
  · exact aw_tabIn (off := 167) (t := 200) dL_law_33 (by decide) (by decide) (by decide) (by decide) (lo_0 R hi hL hk hn K)
  · exact aw_tabIn (off := 190) (t := 223) dL_law_33 (by decide) (by decide) (by decide) (by decide) (lo_1 R hi hL hk hn K)
  · exact aw_tabIn (off := 233) (t := 266) dL_law_33 (by decide) (by decide) (by decide) (by decide) (lo_2 R hi hL hk hn K)
  · exact aw_tabIn (off := 266) (t := 299) dL_law_33 (by decide) (by decide) (by decide) (by decide) (lo_3 R hi hL hk hn K)
  · exact aw_tabIn (off := 289) (t := 322) dL_law_33 (by decide) (by decide) (by decide) (by decide) (lo_4 R hi hL hk hn K)
  · exact aw_tabIn (off := 332) (t := 365) dL_law_33 (by decide) (by decide) (by decide) (by decide) (lo_5 R hi hL hk hn K)
  · exact aw_tabIn (off := 375) (t := 408) dL_law_33 (by decide) (by decide) (by decide) (by decide) (lo_6 R hi hL hk hn K)
  · exact aw_tabIn (off := 418) (t := 451) dL_law_33 (by decide) (by decide) (by decide) (by decide) (lo_7 R hi hL hk hn K)
  · exact aw_tabIn (off := 441) (t := 474) dL_law_33 (by decide) (by decide) (by decide) (by decide) (lo_8 R hi hL hk hn K)
  · exact aw_tabIn (off := 474) (t := 507) dL_law_33 (by decide) (by decide) (by decide) (by decide) (lo_9 R hi hL hk hn K)
  · exact aw_tabIn (off := 497) (t := 530) dL_law_33 (by decide) (by decide) (by decide) (by decide) (lo_10 R hi hL hk hn K)
  · exact aw_tabIn (off := 510) (t := 543) dL_law_33 (by decide) (by decide) (by decide) (by decide) (lo_11 R hi hL hk hn K)
  · exact aw_tabIn (off := 533) (t := 566) dL_law_33 (by decide) (by decide) (by decide) (by decide) (lo_12 R hi hL hk hn K)
  · exact aw_tabIn (off := 577) (t := 610) dL_law_33 (by decide) (by decide) (by decide) (by decide) (lo_13 R hi hL hk hn K)
  · exact aw_tabIn (off := 611) (t := 644) dL_law_33 (by decide) (by decide) (by decide) (by decide) (lo_14 R hi hL hk hn K)
  · exact aw_tabIn (off := 655) (t := 688) dL_law_33 (by decide) (by decide) (by decide) (by decide) (lo_15 R hi hL hk hn K)
  · exact aw_tabIn (off := 699) (t := 732) dL_law_33 (by decide) (by decide) (by decide) (by decide) (lo_16 R hi hL hk hn K)
  · exact aw_tabIn (off := 722) (t := 755) dL_law_33 (by decide) (by decide) (by decide) (by decide) (lo_17 R hi hL hk hn K)
  · exact aw_tabIn (off := 745) (t := 778) dL_law_33 (by decide) (by decide) (by decide) (by decide) (lo_18 R hi hL hk hn K)
  · exact aw_tabIn (off := 758) (t := 791) dL_law_33 (by decide) (by decide) (by decide) (by decide) (lo_19 R hi hL hk hn K)
  · exact aw_tabIn (off := 781) (t := 814) dL_law_33 (by decide) (by decide) (by decide) (by decide) (lo_20 R hi hL hk hn K)
  · exact aw_tabIn (off := 804) (t := 837) dL_law_33 (by decide) (by decide) (by decide) (by decide) (lo_21 R hi hL hk hn K)
  · exact aw_tabIn (off := 828) (t := 861) dL_law_33 (by decide) (by decide) (by decide) (by decide) (lo_22 R hi hL hk hn K)
  · exact aw_tabIn (off := 892) (t := 925) dL_law_33 (by decide) (by decide) (by decide) (by decide) (lo_23 R hi hL hk hn K)
  · exact aw_tabIn (off := 946) (t := 979) dL_law_33 (by decide) (by decide) (by decide) (by decide) (lo_24 R hi hL hk hn K)
  · exact aw_tabIn (off := 969) (t := 1002) dL_law_33 (by decide) (by decide) (by decide) (by decide) (lo_25 R hi hL hk hn K)
  · exact aw_tabIn (off := 992) (t := 1025) dL_law_33 (by decide) (by decide) (by decide) (by decide) (lo_26 R hi hL hk hn K)
  · exact aw_tabIn (off := 1005) (t := 1038) dL_law_33 (by decide) (by decide) (by decide) (by decide) (lo_27 R hi hL hk hn K)
  · exact aw_tabIn (off := 1018) (t := 1051) dL_law_33 (by decide) (by decide) (by decide) (by decide) (lo_28 R hi hL hk hn K)
  · exact aw_tabIn (off := 1032) (t := 1065) dL_law_33 (by decide) (by decide) (by decide) (by decide) (lo_29 R hi hL hk hn K)
  · exact aw_tabIn (off := 1055) (t := 1088) dL_law_33 (by decide) (by decide) (by decide) (by decide) (lo_30 R hi hL hk hn K)
  · exact aw_tabIn (off := 1079) (t := 1112) dL_law_33 (by decide) (by decide) (by decide) (by decide) (lo_31 R hi hL hk hn K)
  · exact aw_tabIn (off := 1122) (t := 1155) dL_law_33 (by decide) (by decide) (by decide) (by decide) (lo_32 R hi hL hk hn K)
  · exact aw_tabIn (off := 1195) (t := 1228) dL_law_33 (by decide) (by decide) (by decide) (by decide) (lo_33 R hi hL hk hn K)
  · exact aw_tabIn (off := 1229) (t := 1262) dL_law_33 (by decide) (by decide) (by decide) (by decide) (lo_34 R hi hL hk hn K)
  · exact aw_tabIn (off := 1292) (t := 1325) dL_law_33 (by decide) (by decide) (by decide) (by decide) (lo_35 R hi hL hk hn K)
  · exact aw_tabIn (off := 1305) (t := 1338) dL_law_33 (by decide) (by decide) (by decide) (by decide) (lo_36 R hi hL hk hn K)
  · exact aw_tabIn (off := 1318) (t := 1351) dL_law_33 (by decide) (by decide) (by decide) (by decide) (lo_37 R hi hL hk hn K)
  · exact aw_tabOut (t := 1374) dL_law_33 (Or.inr (by rw [et]; omega)) (by decide) (K _ _ _ _ _ R (by omega) (by omega))
theorem aw_zretL {G : aw_G} {M : aw_M} {N0 d mc ms : Nat} {Ω : aw_O} {I : aw_MI} {J : aw_MJ} {k n : Nat} {lv : List Value} {pc : Nat} (hd : decode (aw_cc M) pc = .ok (.ireturn, 1)) (hr : aw_rt M = some .boolean) (hk : k ≤ mc) (hn : n ≤ ms) : AW G M N0 d mc ms (aw_QI lQ) Ω I J k n lv pc [.int (nI 1)] := by
  intro p e R s m args below meth c H locs ls Z hF hl hR hS hE
  exact hE (some (.int (nI 1))) Ω I J H locs k n pc ls ⟨nI 1, rfl, rfl⟩ hR hS hk hn (Or.inl ⟨nI 1, rfl, hd, .boolean, hr, rfl⟩)
theorem l_loop {G : aw_G} {b L : Nat} {xs : Nat → Int32} (hL : L ≤ 3072) : ∀ (z i k n : Nat) (Ω : aw_O) (I : aw_MI) (J : aw_MJ), L < i + z → i ≤ L → Rel Ω I J → 6 * k ≤ 510 + i → 2 * n ≤ 2120 + i → AW G (mL b L xs) 0 1000 600000 7302249 (aw_QI lQ) Ω I J k n [.ref b, .ref (aw_ad G 0), .ref (aw_ad G 65), .int (nI i)] 18 [] := by
  intro z
  induction z with
  | zero => intro i k n Ω I J h0 h1; exact absurd h0 (by omega)
  | succ z ih =>
    intro i k n Ω I J h0 h1 R hk hn
    refine aw_iload_n dL_law_18 rfl ?_
    refine aw_aload_n dL_law_19 rfl ?_
    refine aw_slen (List.mem_singleton.mpr rfl) dL_law_20 ?_
    refine aw_bipush (v := nI 6) dL_law_21 (by decide) ?_
    refine aw_pc (pc2 := 23) rfl ?_
    refine aw_isub dL_law_23 ?_
    have es : (nI L - nI 6).toInt = (L : Int) - 6 := by
      have h : nI L - nI 6 = Int32.ofInt ((L : Int) - 6) := by rw [Int32.ofInt_sub]; rfl
      rw [h, o32 (by omega)]
    have ei : (nI i).toInt = i := nI_toInt (by omega)
    refine aw_icmp_gt (t := 1380) dL_law_24 (by decide) (fun _ => ?_) (fun h => ?_)
    · refine aw_iconst (v := nI 1) dL_law_1380 (by decide) ?_
      exact aw_zretL dL_law_1381 rfl (by omega) (by omega)
    · rw [Int32.lt_iff_toInt_lt, es, ei] at h
      refine aw_pc (pc2 := 27) rfl ?_
      refine aw_aload_n dL_law_27 rfl ?_
      refine aw_iload_n dL_law_28 rfl ?_
      refine aw_sld (i := i) (List.mem_singleton.mpr rfl) dL_law_29 (by omega) (by omega) ?_
      refine aw_bipush (v := nI 63) dL_law_30 (by decide) ?_
      refine aw_pc (pc2 := 32) rfl ?_
      refine aw_iand dL_law_32 ?_
      refine aw_pc (pc2 := 33) rfl ?_
      refine lo_tab R (by omega) hL (by omega) (by omega) (fun Ω' I' J' k' n' R' hk' hn' => ?_) _
      refine aw_iinc (v := nI (i + 6)) dL_law_1374 rfl (nI_add i 6) (by show 3 < 4; decide) ?_
      refine aw_pc (pc2 := 1377) rfl ?_
      refine aw_goto (t := 18) dL_law_1377 (by decide) ?_
      show AW G (mL b L xs) 0 1000 600000 7302249 (aw_QI lQ) Ω' I' J' k' n' [.ref b, .ref (aw_ad G 0), .ref (aw_ad G 65), .int (nI (i + 6))] 18 []
      exact ih (i + 6) k' n' Ω' I' J' (by omega) (by omega) R' (by omega) (by omega)

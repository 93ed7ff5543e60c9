theorem cO7_nx : aw_nx cO_X7 = 65 := by decide +kernel
theorem l_start {G : aw_G} {b L : Nat} {xs : Nat → Int32} (hL : L ≤ 3072) : AW G (mL b L xs) 0 1000 600000 7302249 (aw_QI lQ) aw_O0 (fun _ _ => 0) (fun _ _ => 0) 0 0 [.ref b, .null, .null, .null] 0 [] := by
  refine aw_new dL_law_0 nwL_7 (by decide) (by decide) ?_
  refine aw_pc (pc2 := 3) rfl ?_
  refine aw_dup dL_law_3 rfl ?_
  refine aw_ciV (As := []) (d' := 999) dL_law_4 lcL_9 okX7_init rfl rfl (by omega) rfl rfl (Nat.le_of_ble_eq_true rfl) ⟨Nat.le_of_ble_eq_true rfl, Nat.le_of_ble_eq_true rfl⟩ (tX7_init (by omega) ?_)
  refine aw_pc (pc2 := 7) rfl ?_
  refine aw_astore_n dL_law_7 (by show 1 < 4; decide) ?_
  refine aw_pc (pc2 := 8) rfl ?_
  refine aw_new dL_law_8 nwL_10 (Nat.le_of_ble_eq_true rfl) (Nat.le_of_ble_eq_true rfl) ?_
  rw [cO7_nx]
  refine aw_pc (pc2 := 11) rfl ?_
  refine aw_dup dL_law_11 rfl ?_
  refine aw_ciV (As := []) (d' := 999) dL_law_12 lcL_12 okX8_init rfl rfl (by omega) rfl rfl (Nat.le_of_ble_eq_true rfl) ⟨Nat.le_of_ble_eq_true rfl, Nat.le_of_ble_eq_true rfl⟩ (tX8_init (by omega) ?_)
  refine aw_pc (pc2 := 15) rfl ?_
  refine aw_astore_n dL_law_15 (by show 2 < 4; decide) ?_
  refine aw_iconst (v := nI 0) dL_law_16 (by decide) ?_
  refine aw_istore_n dL_law_17 (by show 3 < 4; decide) ?_
  refine aw_pc (pc2 := 18) rfl ?_
  exact l_loop hL (L + 1) 0 84 1058 cO_X8 lI lJ (by omega) (by omega) l_rel (by omega) (by omega)

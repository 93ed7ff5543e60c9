/-! CONSTRUCTORS walked (printed by my program gen_ctor2.py) -/
theorem mx_is {Ω : aw_O} {a : Nat} {S : aw_S} (h : aw_is Ω a S) : aw_is (mx_O Ω 6) a S := aw_ext_is (aw_ext_is (aw_ext_is (aw_ext_is (aw_ext_is (aw_ext_is (aw_ext_is h))))))
theorem tX0_init {G : aw_G} {d : Nat} {Ω : aw_O} {I : aw_MI} {J : aw_MJ} {Q : aw_O → aw_MI → aw_MJ → Prop} {b : Nat} (hO : aw_is Ω b (.inl 0)) (hd : 1 ≤ d) (hQ : Q Ω I J) : aw_Call G MX0_init d 0 0 [.ref (aw_ad G b)] Ω I J (aw_QV Q) := by
  refine aw_enter (by decide +kernel) rfl (Nat.le_of_ble_eq_true rfl) ?_
  show AW G MX0_init (aw_nx Ω) d 0 0 (aw_QV Q) Ω I J 0 0 [.ref (aw_ad G b)] 0 []
  refine aw_aload_n dX0_init_0 rfl ?_
  refine aw_oi dX0_init_1 oiX0_1 (by omega) (Nat.le_of_ble_eq_true rfl) ?_
  exact aw_vret dX0_init_4 rfl hQ (by decide) (by decide)
def cO_X1 (Ω : aw_O) (b : Nat) : aw_O := (aw_sp (aw_ext (aw_sp (aw_ext (aw_sp (aw_ext (aw_sp (aw_ext (aw_sp (aw_ext (aw_sp (aw_ext Ω (.inr (0, 9)) (fun _ => none)) b 3 (aw_nx Ω)) (.inr (0, 3)) (fun _ => none)) b 4 (aw_nx Ω + 1)) (.inr (0, 6)) (fun _ => none)) b 5 (aw_nx Ω + 2)) (.inr (0, 6)) (fun _ => none)) b 6 (aw_nx Ω + 3)) (.inr (0, 6)) (fun _ => none)) b 7 (aw_nx Ω + 4)) (.inr (0, 18)) (fun _ => none)) b 8 (aw_nx Ω + 5))
def cI_X1 (Ω : aw_O) (I : aw_MI) (b : Nat) : aw_MI := (aw_z (aw_z (aw_z (aw_z (aw_z (aw_z (aw_up I b 0 (nI 1)) (aw_nx Ω) 0) (aw_nx Ω + 1) 0) (aw_nx Ω + 2) 0) (aw_nx Ω + 3) 0) (aw_nx Ω + 4) 0) (aw_nx Ω + 5) 0)
def cJ_X1 (Ω : aw_O) (J : aw_MJ) (b : Nat) : aw_MJ := (aw_z (aw_z (aw_z (aw_z (aw_z (aw_z J (aw_nx Ω) 0) (aw_nx Ω + 1) 0) (aw_nx Ω + 2) 0) (aw_nx Ω + 3) 0) (aw_nx Ω + 4) 0) (aw_nx Ω + 5) 0)
theorem cO_X1_is {Ω : aw_O} {b a : Nat} {S : aw_S} (h : aw_is Ω a S) : aw_is (cO_X1 Ω b) a S := by
  unfold cO_X1
  repeat (first | exact h | apply aw_sp_is | apply aw_ext_is | apply mx_is)
theorem tX1_init {G : aw_G} {d : Nat} {Ω : aw_O} {I : aw_MI} {J : aw_MJ} {Q : aw_O → aw_MI → aw_MJ → Prop} {b : Nat} (hO : aw_is Ω b (.inl 1)) (hd : 1 ≤ d) (hQ : Q (cO_X1 Ω b) (cI_X1 Ω I b) (cJ_X1 Ω J b)) : aw_Call G MX1_init d 6 48 [.ref (aw_ad G b)] Ω I J (aw_QV Q) := by
  refine aw_enter (by decide +kernel) rfl (Nat.le_of_ble_eq_true rfl) ?_
  show AW G MX1_init (aw_nx Ω) d 6 48 (aw_QV Q) Ω I J 0 0 [.ref (aw_ad G b)] 0 []
  refine aw_aload_n dX1_init_0 rfl ?_
  refine aw_oi dX1_init_1 oiX1_3 (by omega) (Nat.le_of_ble_eq_true rfl) ?_
  refine aw_aload_n dX1_init_4 rfl ?_
  refine aw_iconst (v := nI 1) dX1_init_5 (by decide) ?_
  refine aw_pc (pc2 := 6) rfl ?_
  refine aw_putI dX1_init_6 fwX1_9 hO rfl ?_
  refine aw_aload_n dX1_init_9 rfl ?_
  refine aw_bipush (v := nI 9) dX1_init_10 (by decide) ?_
  refine aw_newaI (N := 9) dX1_init_12 (by decide) (by decide) (by decide) ?_
  refine aw_putR (r := (aw_nx Ω)) dX1_init_14 ffX1_15 (aw_ext_is hO) rfl rfl ?_
  refine aw_pc (pc2 := 17) rfl ?_
  refine aw_aload_n dX1_init_17 rfl ?_
  refine aw_iconst (v := nI 3) dX1_init_18 (by decide) ?_
  refine aw_newaI (N := 3) dX1_init_19 (by decide) (by decide) (by decide) ?_
  refine aw_putR (r := (aw_nx Ω + 1)) dX1_init_21 ffX1_19 (aw_ext_is (aw_sp_is (aw_ext_is hO))) rfl rfl ?_
  refine aw_aload_n dX1_init_24 rfl ?_
  refine aw_pc (pc2 := 25) rfl ?_
  refine aw_bipush (v := nI 6) dX1_init_25 (by decide) ?_
  refine aw_newaI (N := 6) dX1_init_27 (by decide) (by decide) (by decide) ?_
  refine aw_putR (r := (aw_nx Ω + 2)) dX1_init_29 ffX1_22 (aw_ext_is (aw_sp_is (aw_ext_is (aw_sp_is (aw_ext_is hO))))) rfl rfl ?_
  refine aw_aload_n dX1_init_32 rfl ?_
  refine aw_bipush (v := nI 6) dX1_init_33 (by decide) ?_
  refine aw_pc (pc2 := 35) rfl ?_
  refine aw_newaI (N := 6) dX1_init_35 (by decide) (by decide) (by decide) ?_
  refine aw_putR (r := (aw_nx Ω + 3)) dX1_init_37 ffX1_25 (aw_ext_is (aw_sp_is (aw_ext_is (aw_sp_is (aw_ext_is (aw_sp_is (aw_ext_is hO))))))) rfl rfl ?_
  refine aw_aload_n dX1_init_40 rfl ?_
  refine aw_bipush (v := nI 6) dX1_init_41 (by decide) ?_
  refine aw_newaI (N := 6) dX1_init_43 (by decide) (by decide) (by decide) ?_
  refine aw_pc (pc2 := 45) rfl ?_
  refine aw_putR (r := (aw_nx Ω + 4)) dX1_init_45 ffX1_28 (aw_ext_is (aw_sp_is (aw_ext_is (aw_sp_is (aw_ext_is (aw_sp_is (aw_ext_is (aw_sp_is (aw_ext_is hO))))))))) rfl rfl ?_
  refine aw_aload_n dX1_init_48 rfl ?_
  refine aw_bipush (v := nI 18) dX1_init_49 (by decide) ?_
  refine aw_newaI (N := 18) dX1_init_51 (by decide) (by decide) (by decide) ?_
  refine aw_putR (r := (aw_nx Ω + 5)) dX1_init_53 ffX1_31 (aw_ext_is (aw_sp_is (aw_ext_is (aw_sp_is (aw_ext_is (aw_sp_is (aw_ext_is (aw_sp_is (aw_ext_is (aw_sp_is (aw_ext_is hO))))))))))) rfl rfl ?_
  refine aw_pc (pc2 := 56) rfl ?_
  exact aw_vret dX1_init_56 rfl hQ (by decide) (by decide)
def cO_X4 (Ω : aw_O) (b : Nat) : aw_O := (aw_sp (aw_ext (aw_sp (aw_ext Ω (.inr (1, 3)) (fun _ => none)) b 0 (aw_nx Ω)) (.inr (1, 6)) (fun _ => none)) b 1 (aw_nx Ω + 1))
def cI_X4 (Ω : aw_O) (I : aw_MI) (b : Nat) : aw_MI := (aw_z (aw_z I (aw_nx Ω) 0) (aw_nx Ω + 1) 0)
def cJ_X4 (Ω : aw_O) (J : aw_MJ) (b : Nat) : aw_MJ := (aw_up (aw_z (aw_z J (aw_nx Ω) 0) (aw_nx Ω + 1) 0) b 2 1)
theorem cO_X4_is {Ω : aw_O} {b a : Nat} {S : aw_S} (h : aw_is Ω a S) : aw_is (cO_X4 Ω b) a S := by
  unfold cO_X4
  repeat (first | exact h | apply aw_sp_is | apply aw_ext_is | apply mx_is | apply cO_X1_is)
theorem tX4_init {G : aw_G} {d : Nat} {Ω : aw_O} {I : aw_MI} {J : aw_MJ} {Q : aw_O → aw_MI → aw_MJ → Prop} {b : Nat} (hO : aw_is Ω b (.inl 3)) (hd : 1 ≤ d) (hQ : Q (cO_X4 Ω b) (cI_X4 Ω I b) (cJ_X4 Ω J b)) : aw_Call G MX4_init d 2 9 [.ref (aw_ad G b)] Ω I J (aw_QV Q) := by
  refine aw_enter (by decide +kernel) rfl (Nat.le_of_ble_eq_true rfl) ?_
  show AW G MX4_init (aw_nx Ω) d 2 9 (aw_QV Q) Ω I J 0 0 [.ref (aw_ad G b)] 0 []
  refine aw_aload_n dX4_init_0 rfl ?_
  refine aw_oi dX4_init_1 oiX4_3 (by omega) (Nat.le_of_ble_eq_true rfl) ?_
  refine aw_aload_n dX4_init_4 rfl ?_
  refine aw_iconst (v := nI 3) dX4_init_5 (by decide) ?_
  refine aw_pc (pc2 := 6) rfl ?_
  refine aw_newaJ (N := 3) dX4_init_6 (by decide) (by decide) (by decide) ?_
  refine aw_putR (r := (aw_nx Ω)) dX4_init_8 ffX4_9 (aw_ext_is hO) rfl rfl ?_
  refine aw_aload_n dX4_init_11 rfl ?_
  refine aw_bipush (v := nI 6) dX4_init_12 (by decide) ?_
  refine aw_newaJ (N := 6) dX4_init_14 (by decide) (by decide) (by decide) ?_
  refine aw_pc (pc2 := 16) rfl ?_
  refine aw_putR (r := (aw_nx Ω + 1)) dX4_init_16 ffX4_15 (aw_ext_is (aw_sp_is (aw_ext_is hO))) rfl rfl ?_
  refine aw_aload_n dX4_init_19 rfl ?_
  refine aw_lconst (v := 1) dX4_init_20 (by decide) ?_
  refine aw_putJ dX4_init_21 fwX4_18 (aw_sp_is (aw_ext_is (aw_sp_is (aw_ext_is hO)))) rfl ?_
  exact aw_vret dX4_init_24 rfl hQ (by decide) (by decide)
def cO_X5 (Ω : aw_O) (b : Nat) : aw_O := (aw_sp (aw_ext (aw_sp (aw_ext (aw_sp (aw_ext Ω (.inr (0, 4)) (fun _ => none)) b 0 (aw_nx Ω)) (.inr (0, 4)) (fun _ => none)) b 1 (aw_nx Ω + 1)) (.inr (1, 48)) (fun _ => none)) b 2 (aw_nx Ω + 2))
def cI_X5 (Ω : aw_O) (I : aw_MI) (b : Nat) : aw_MI := (aw_fill (aw_z (aw_z (aw_z I (aw_nx Ω) 0) (aw_nx Ω + 1) 0) (aw_nx Ω + 2) 0) (aw_nx Ω) 4 (-1))
def cJ_X5 (Ω : aw_O) (J : aw_MJ) (b : Nat) : aw_MJ := (aw_z (aw_z (aw_z J (aw_nx Ω) 0) (aw_nx Ω + 1) 0) (aw_nx Ω + 2) 0)
theorem cO_X5_is {Ω : aw_O} {b a : Nat} {S : aw_S} (h : aw_is Ω a S) : aw_is (cO_X5 Ω b) a S := by
  unfold cO_X5
  repeat (first | exact h | apply aw_sp_is | apply aw_ext_is | apply mx_is | apply cO_X1_is | apply cO_X4_is)
theorem tX5_init {G : aw_G} {d : Nat} {Ω : aw_O} {I : aw_MI} {J : aw_MJ} {Q : aw_O → aw_MI → aw_MJ → Prop} {b : Nat} (hO : aw_is Ω b (.inl 4)) (hd : 2 ≤ d) (hQ : Q (cO_X5 Ω b) (cI_X5 Ω I b) (cJ_X5 Ω J b)) : aw_Call G MX5_init d 3 56 [.ref (aw_ad G b)] Ω I J (aw_QV Q) := by
  refine aw_enter (by decide +kernel) rfl (Nat.le_of_ble_eq_true rfl) ?_
  show AW G MX5_init (aw_nx Ω) d 3 56 (aw_QV Q) Ω I J 0 0 [.ref (aw_ad G b)] 0 []
  have c5_P : aw_P (aw_sp (aw_ext (aw_sp (aw_ext (aw_sp (aw_ext Ω (.inr (0, 4)) (fun _ => none)) b 0 (aw_nx Ω)) (.inr (0, 4)) (fun _ => none)) b 1 (aw_nx Ω + 1)) (.inr (1, 48)) (fun _ => none)) b 2 (aw_nx Ω + 2)) b 0 = some (aw_nx Ω) := by
    have h9 := hO.1
    rw [aw_sp_P, if_neg (fun q => absurd q.2 (by decide)), aw_ext_P, if_neg (by show b ≠ aw_nx Ω + 2; omega), aw_sp_P, if_neg (fun q => absurd q.2 (by decide)), aw_ext_P, if_neg (by show b ≠ aw_nx Ω + 1; omega), aw_sp_P, if_pos ⟨rfl, rfl⟩]
  have c5_A : aw_is (aw_sp (aw_ext (aw_sp (aw_ext (aw_sp (aw_ext Ω (.inr (0, 4)) (fun _ => none)) b 0 (aw_nx Ω)) (.inr (0, 4)) (fun _ => none)) b 1 (aw_nx Ω + 1)) (.inr (1, 48)) (fun _ => none)) b 2 (aw_nx Ω + 2)) (aw_nx Ω) (.inr (0, 4)) := aw_sp_is (aw_ext_is (aw_sp_is (aw_ext_is (aw_sp_is (aw_ext_new _ _ _)))))
  refine aw_aload_n dX5_init_0 rfl ?_
  refine aw_oi dX5_init_1 oiX5_3 (by omega) (Nat.le_of_ble_eq_true rfl) ?_
  refine aw_aload_n dX5_init_4 rfl ?_
  refine aw_iconst (v := nI 4) dX5_init_5 (by decide) ?_
  refine aw_pc (pc2 := 6) rfl ?_
  refine aw_newaI (N := 4) dX5_init_6 (by decide) (by decide) (by decide) ?_
  refine aw_putR (r := (aw_nx Ω)) dX5_init_8 ffX5_9 (aw_ext_is hO) rfl rfl ?_
  refine aw_aload_n dX5_init_11 rfl ?_
  refine aw_iconst (v := nI 4) dX5_init_12 (by decide) ?_
  refine aw_newaI (N := 4) dX5_init_13 (by decide) (by decide) (by decide) ?_
  refine aw_pc (pc2 := 15) rfl ?_
  refine aw_putR (r := (aw_nx Ω + 1)) dX5_init_15 ffX5_15 (aw_ext_is (aw_sp_is (aw_ext_is hO))) rfl rfl ?_
  refine aw_aload_n dX5_init_18 rfl ?_
  refine aw_bipush (v := nI 48) dX5_init_19 (by decide) ?_
  refine aw_newaJ (N := 48) dX5_init_21 (by decide) (by decide) (by decide) ?_
  refine aw_putR (r := (aw_nx Ω + 2)) dX5_init_23 ffX5_18 (aw_ext_is (aw_sp_is (aw_ext_is (aw_sp_is (aw_ext_is hO))))) rfl rfl ?_
  refine aw_pc (pc2 := 26) rfl ?_
  refine aw_aload_n dX5_init_26 rfl ?_
  refine aw_getR (r := aw_nx Ω) dX5_init_27 flX5_9 (aw_sp_is (aw_ext_is (aw_sp_is (aw_ext_is (aw_sp_is (aw_ext_is hO)))))) c5_P ?_
  refine aw_iconst (v := -1) dX5_init_30 (by decide) ?_
  refine aw_csV (As := [_, _]) (d' := d - 1) dX5_init_31 lkX5_22 (by omega) rfl rfl (Nat.le_of_ble_eq_true rfl) (by decide) (tJ7_fill_53178 (e := 4) c5_A (by decide) ?_)
  exact aw_vret dX5_init_34 rfl hQ (by decide) (by decide)
def cO_X2 (Ω : aw_O) (b : Nat) (c : Nat) : aw_O := (aw_sp (aw_sp (cO_X4 (aw_ext Ω (.inl 3) (fun _ => none)) (aw_nx Ω)) b 1 (aw_nx Ω)) b 0 c)
def cI_X2 (Ω : aw_O) (I : aw_MI) (b : Nat) : aw_MI := (cI_X4 (aw_ext Ω (.inl 3) (fun _ => none)) (aw_z I (aw_nx Ω) 0) (aw_nx Ω))
def cJ_X2 (Ω : aw_O) (J : aw_MJ) (b : Nat) : aw_MJ := (cJ_X4 (aw_ext Ω (.inl 3) (fun _ => none)) (aw_z J (aw_nx Ω) 0) (aw_nx Ω))
theorem cO_X2_is {Ω : aw_O} {b c a : Nat} {S : aw_S} (h : aw_is Ω a S) : aw_is (cO_X2 Ω b c) a S := by
  unfold cO_X2
  repeat (first | exact h | apply aw_sp_is | apply aw_ext_is | apply mx_is | apply cO_X1_is | apply cO_X4_is | apply cO_X5_is)
theorem tX2_init {G : aw_G} {d : Nat} {Ω : aw_O} {I : aw_MI} {J : aw_MJ} {Q : aw_O → aw_MI → aw_MJ → Prop} {b c : Nat} (hO : aw_is Ω b (.inl 2)) (hd : 2 ≤ d) (hQ : Q (cO_X2 Ω b c) (cI_X2 Ω I b) (cJ_X2 Ω J b)) : aw_Call G MX2_init d 3 12 [.ref (aw_ad G b), .ref (aw_ad G c)] Ω I J (aw_QV Q) := by
  refine aw_enter (by decide +kernel) rfl (Nat.le_of_ble_eq_true rfl) ?_
  show AW G MX2_init (aw_nx Ω) d 3 12 (aw_QV Q) Ω I J 0 0 [.ref (aw_ad G b), .ref (aw_ad G c)] 0 []
  refine aw_aload_n dX2_init_0 rfl ?_
  refine aw_oi dX2_init_1 oiX2_3 (by omega) (Nat.le_of_ble_eq_true rfl) ?_
  refine aw_aload_n dX2_init_4 rfl ?_
  refine aw_new dX2_init_5 nwX2_9 (by decide) (by decide) ?_
  refine aw_pc (pc2 := 8) rfl ?_
  refine aw_dup dX2_init_8 rfl ?_
  refine aw_cinV (As := []) (d' := d - 1) dX2_init_9 lcX2_11 okX4_init rfl rfl (by omega) rfl rfl (Nat.le_of_ble_eq_true rfl) (by decide) (tX4_init (aw_ext_new _ _ _) (by omega) ?_)
  refine aw_putR (r := (aw_nx Ω)) dX2_init_12 ffX2_12 (cO_X4_is (aw_ext_is hO)) rfl rfl ?_
  refine aw_aload_n dX2_init_15 rfl ?_
  refine aw_aload_n dX2_init_16 rfl ?_
  refine aw_pc (pc2 := 17) rfl ?_
  refine aw_putR (r := c) dX2_init_17 ffX2_18 (aw_sp_is (cO_X4_is (aw_ext_is hO))) rfl rfl ?_
  exact aw_vret dX2_init_20 rfl hQ (by decide) (by decide)
def cO_X6 (Ω : aw_O) (b : Nat) (c : Nat) : aw_O := (aw_sp (aw_sp (aw_ext (aw_sp (aw_ext (aw_sp (mx_O (aw_sp (aw_ext (aw_sp (cO_X4 (aw_ext (aw_sp (cO_X4 (aw_ext Ω (.inl 3) (fun _ => none)) (aw_nx Ω)) b 1 (aw_nx Ω)) (.inl 3) (fun _ => none)) (aw_nx Ω + 3)) b 2 (aw_nx Ω + 3)) (.inr (0, 64)) (fun _ => none)) b 3 (aw_nx Ω + 6)) 6) b 7 (aw_nx Ω + 7)) (.inr (0, 3)) (fun _ => none)) b 8 (aw_nx Ω + 14)) (.inr (0, 41)) (fun _ => none)) b 9 (aw_nx Ω + 15)) b 0 c)
def cI_X6 (Ω : aw_O) (I : aw_MI) (b : Nat) : aw_MI := (aw_z (aw_z (aw_z (cI_X4 (aw_ext (aw_sp (cO_X4 (aw_ext Ω (.inl 3) (fun _ => none)) (aw_nx Ω)) b 1 (aw_nx Ω)) (.inl 3) (fun _ => none)) (aw_z (cI_X4 (aw_ext Ω (.inl 3) (fun _ => none)) (aw_z I (aw_nx Ω) 0) (aw_nx Ω)) (aw_nx Ω + 3) 0) (aw_nx Ω + 3)) (aw_nx Ω + 6) 0) (aw_nx Ω + 14) 0) (aw_nx Ω + 15) 0)
def cJ_X6 (Ω : aw_O) (J : aw_MJ) (b : Nat) : aw_MJ := (aw_z (aw_z (mx_J (aw_nx Ω + 7) (aw_z (cJ_X4 (aw_ext (aw_sp (cO_X4 (aw_ext Ω (.inl 3) (fun _ => none)) (aw_nx Ω)) b 1 (aw_nx Ω)) (.inl 3) (fun _ => none)) (aw_z (cJ_X4 (aw_ext Ω (.inl 3) (fun _ => none)) (aw_z J (aw_nx Ω) 0) (aw_nx Ω)) (aw_nx Ω + 3) 0) (aw_nx Ω + 3)) (aw_nx Ω + 6) 0)) (aw_nx Ω + 14) 0) (aw_nx Ω + 15) 0)
theorem cO_X6_is {Ω : aw_O} {b c a : Nat} {S : aw_S} (h : aw_is Ω a S) : aw_is (cO_X6 Ω b c) a S := by
  unfold cO_X6
  repeat (first | exact h | apply aw_sp_is | apply aw_ext_is | apply mx_is | apply cO_X1_is | apply cO_X4_is | apply cO_X5_is | apply cO_X2_is)
theorem tX6_init {G : aw_G} {d : Nat} {Ω : aw_O} {I : aw_MI} {J : aw_MJ} {Q : aw_O → aw_MI → aw_MJ → Prop} {b c : Nat} (hO : aw_is Ω b (.inl 5)) (hd : 2 ≤ d) (hQ : Q (cO_X6 Ω b c) (cI_X6 Ω I b) (cJ_X6 Ω J b)) : aw_Call G MX6_init d 16 186 [.ref (aw_ad G b), .ref (aw_ad G c)] Ω I J (aw_QV Q) := by
  refine aw_enter (by decide +kernel) rfl (Nat.le_of_ble_eq_true rfl) ?_
  show AW G MX6_init (aw_nx Ω) d 16 186 (aw_QV Q) Ω I J 0 0 [.ref (aw_ad G b), .ref (aw_ad G c)] 0 []
  refine aw_aload_n dX6_init_0 rfl ?_
  refine aw_oi dX6_init_1 oiX6_3 (by omega) (Nat.le_of_ble_eq_true rfl) ?_
  refine aw_aload_n dX6_init_4 rfl ?_
  refine aw_new dX6_init_5 nwX6_9 (by decide) (by decide) ?_
  refine aw_pc (pc2 := 8) rfl ?_
  refine aw_dup dX6_init_8 rfl ?_
  refine aw_cinV (As := []) (d' := d - 1) dX6_init_9 lcX6_11 okX4_init rfl rfl (by omega) rfl rfl (Nat.le_of_ble_eq_true rfl) (by decide) (tX4_init (aw_ext_new _ _ _) (by omega) ?_)
  refine aw_putR (r := (aw_nx Ω)) dX6_init_12 ffX6_12 (cO_X4_is (aw_ext_is hO)) rfl rfl ?_
  refine aw_aload_n dX6_init_15 rfl ?_
  refine aw_new dX6_init_16 nwX6_9 (by decide) (by decide) ?_
  refine aw_pc (pc2 := 19) rfl ?_
  refine aw_dup dX6_init_19 rfl ?_
  refine aw_cinV (As := []) (d' := d - 1) dX6_init_20 lcX6_11 okX4_init rfl rfl (by omega) rfl rfl (Nat.le_of_ble_eq_true rfl) (by decide) (tX4_init (aw_ext_new _ _ _) (by omega) ?_)
  refine aw_putR (r := (aw_nx Ω + 3)) dX6_init_23 ffX6_18 (cO_X4_is (aw_ext_is (aw_sp_is (cO_X4_is (aw_ext_is hO))))) rfl rfl ?_
  refine aw_aload_n dX6_init_26 rfl ?_
  refine aw_bipush (v := nI 64) dX6_init_27 (by decide) ?_
  refine aw_pc (pc2 := 29) rfl ?_
  refine aw_newaI (N := 64) dX6_init_29 (by decide) (by decide) (by decide) ?_
  refine aw_putR (r := (aw_nx Ω + 6)) dX6_init_31 ffX6_21 (aw_ext_is (aw_sp_is (cO_X4_is (aw_ext_is (aw_sp_is (cO_X4_is (aw_ext_is hO))))))) rfl rfl ?_
  refine aw_aload_n dX6_init_34 rfl ?_
  refine aw_bipush (v := nI 6) dX6_init_35 (by decide) ?_
  refine aw_bipush (v := nI 8) dX6_init_37 (by decide) ?_
  refine aw_pc (pc2 := 39) rfl ?_
  refine aw_mna dX6_init_39 maX6_25 (by decide) (by decide) ?_
  refine aw_putR (r := (aw_nx Ω + 7)) dX6_init_43 ffX6_27 (mx_is (aw_sp_is (aw_ext_is (aw_sp_is (cO_X4_is (aw_ext_is (aw_sp_is (cO_X4_is (aw_ext_is hO))))))))) rfl rfl ?_
  refine aw_aload_n dX6_init_46 rfl ?_
  refine aw_iconst (v := nI 3) dX6_init_47 (by decide) ?_
  refine aw_newaI (N := 3) dX6_init_48 (by decide) (by decide) (by decide) ?_
  refine aw_pc (pc2 := 50) rfl ?_
  refine aw_putR (r := (aw_nx Ω + 14)) dX6_init_50 ffX6_30 (aw_ext_is (aw_sp_is (mx_is (aw_sp_is (aw_ext_is (aw_sp_is (cO_X4_is (aw_ext_is (aw_sp_is (cO_X4_is (aw_ext_is hO))))))))))) rfl rfl ?_
  refine aw_aload_n dX6_init_53 rfl ?_
  refine aw_bipush (v := nI 41) dX6_init_54 (by decide) ?_
  refine aw_newaI (N := 41) dX6_init_56 (by decide) (by decide) (by decide) ?_
  refine aw_putR (r := (aw_nx Ω + 15)) dX6_init_58 ffX6_33 (aw_ext_is (aw_sp_is (aw_ext_is (aw_sp_is (mx_is (aw_sp_is (aw_ext_is (aw_sp_is (cO_X4_is (aw_ext_is (aw_sp_is (cO_X4_is (aw_ext_is hO))))))))))))) rfl rfl ?_
  refine aw_pc (pc2 := 61) rfl ?_
  refine aw_aload_n dX6_init_61 rfl ?_
  refine aw_aload_n dX6_init_62 rfl ?_
  refine aw_putR (r := c) dX6_init_63 ffX6_36 (aw_sp_is (aw_ext_is (aw_sp_is (aw_ext_is (aw_sp_is (mx_is (aw_sp_is (aw_ext_is (aw_sp_is (cO_X4_is (aw_ext_is (aw_sp_is (cO_X4_is (aw_ext_is hO)))))))))))))) rfl rfl ?_
  exact aw_vret dX6_init_66 rfl hQ (by decide) (by decide)

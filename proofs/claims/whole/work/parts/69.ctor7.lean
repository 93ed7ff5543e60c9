/-! CONSTRUCTORS: the class whole, the reference whole -/
/-- no cell yet -/
def aw_O0 : aw_O := (fun _ => .inl 0, fun _ _ => none, 0)
def aw_O7 : aw_O := aw_ext aw_O0 (.inl 6) (fun _ => none)
theorem aw_O7_is : aw_is aw_O7 0 (.inl 6) := aw_ext_new _ _ _
def cO_X7 : aw_O := (aw_sp (aw_ext (aw_sp (cO_X2 (aw_ext (aw_sp (cO_X5 (aw_ext (aw_sp (cO_X6 (aw_ext (aw_sp (cO_X6 (aw_ext (aw_sp (cO_X1 (aw_ext (aw_sp (cO_X1 (aw_ext (aw_sp (cO_X1 (aw_ext aw_O7 (.inl 1) (fun _ => none)) 1) 0 0 1) (.inl 1) (fun _ => none)) 8) 0 1 8) (.inl 1) (fun _ => none)) 15) 0 2 15) (.inl 5) (fun _ => none)) 22 1) 0 3 22) (.inl 5) (fun _ => none)) 39 15) 0 4 39) (.inl 4) (fun _ => none)) 56) 0 5 56) (.inl 2) (fun _ => none)) 60 1) 0 6 60) (.inl 0) (fun _ => none)) 0 7 64)
def cI_X7 (I : aw_MI) : aw_MI := (aw_fill (aw_wr (aw_up (aw_up (aw_up (aw_z (cI_X2 (aw_ext (aw_sp (cO_X5 (aw_ext (aw_sp (cO_X6 (aw_ext (aw_sp (cO_X6 (aw_ext (aw_sp (cO_X1 (aw_ext (aw_sp (cO_X1 (aw_ext (aw_sp (cO_X1 (aw_ext aw_O7 (.inl 1) (fun _ => none)) 1) 0 0 1) (.inl 1) (fun _ => none)) 8) 0 1 8) (.inl 1) (fun _ => none)) 15) 0 2 15) (.inl 5) (fun _ => none)) 22 1) 0 3 22) (.inl 5) (fun _ => none)) 39 15) 0 4 39) (.inl 4) (fun _ => none)) 56) 0 5 56) (.inl 2) (fun _ => none)) (aw_z (cI_X5 (aw_ext (aw_sp (cO_X6 (aw_ext (aw_sp (cO_X6 (aw_ext (aw_sp (cO_X1 (aw_ext (aw_sp (cO_X1 (aw_ext (aw_sp (cO_X1 (aw_ext aw_O7 (.inl 1) (fun _ => none)) 1) 0 0 1) (.inl 1) (fun _ => none)) 8) 0 1 8) (.inl 1) (fun _ => none)) 15) 0 2 15) (.inl 5) (fun _ => none)) 22 1) 0 3 22) (.inl 5) (fun _ => none)) 39 15) 0 4 39) (.inl 4) (fun _ => none)) (aw_z (cI_X6 (aw_ext (aw_sp (cO_X6 (aw_ext (aw_sp (cO_X1 (aw_ext (aw_sp (cO_X1 (aw_ext (aw_sp (cO_X1 (aw_ext aw_O7 (.inl 1) (fun _ => none)) 1) 0 0 1) (.inl 1) (fun _ => none)) 8) 0 1 8) (.inl 1) (fun _ => none)) 15) 0 2 15) (.inl 5) (fun _ => none)) 22 1) 0 3 22) (.inl 5) (fun _ => none)) (aw_z (cI_X6 (aw_ext (aw_sp (cO_X1 (aw_ext (aw_sp (cO_X1 (aw_ext (aw_sp (cO_X1 (aw_ext aw_O7 (.inl 1) (fun _ => none)) 1) 0 0 1) (.inl 1) (fun _ => none)) 8) 0 1 8) (.inl 1) (fun _ => none)) 15) 0 2 15) (.inl 5) (fun _ => none)) (aw_z (cI_X1 (aw_ext (aw_sp (cO_X1 (aw_ext (aw_sp (cO_X1 (aw_ext aw_O7 (.inl 1) (fun _ => none)) 1) 0 0 1) (.inl 1) (fun _ => none)) 8) 0 1 8) (.inl 1) (fun _ => none)) (aw_z (cI_X1 (aw_ext (aw_sp (cO_X1 (aw_ext aw_O7 (.inl 1) (fun _ => none)) 1) 0 0 1) (.inl 1) (fun _ => none)) (aw_z (cI_X1 (aw_ext aw_O7 (.inl 1) (fun _ => none)) (aw_z I 1 0) 1) 8 0) 8) 15 0) 15) 22 0) 22) 39 0) 39) 56 0) 56) 60 0) 60) 64 0) 1 0 (nI 2)) 1 1 (nI 0)) 1 2 (nI 0)) 2 0 9 (sp_rd 3)) 3 3 (nI 0))
def cJ_X7 (J : aw_MJ) : aw_MJ := (aw_z (cJ_X2 (aw_ext (aw_sp (cO_X5 (aw_ext (aw_sp (cO_X6 (aw_ext (aw_sp (cO_X6 (aw_ext (aw_sp (cO_X1 (aw_ext (aw_sp (cO_X1 (aw_ext (aw_sp (cO_X1 (aw_ext aw_O7 (.inl 1) (fun _ => none)) 1) 0 0 1) (.inl 1) (fun _ => none)) 8) 0 1 8) (.inl 1) (fun _ => none)) 15) 0 2 15) (.inl 5) (fun _ => none)) 22 1) 0 3 22) (.inl 5) (fun _ => none)) 39 15) 0 4 39) (.inl 4) (fun _ => none)) 56) 0 5 56) (.inl 2) (fun _ => none)) (aw_z (cJ_X5 (aw_ext (aw_sp (cO_X6 (aw_ext (aw_sp (cO_X6 (aw_ext (aw_sp (cO_X1 (aw_ext (aw_sp (cO_X1 (aw_ext (aw_sp (cO_X1 (aw_ext aw_O7 (.inl 1) (fun _ => none)) 1) 0 0 1) (.inl 1) (fun _ => none)) 8) 0 1 8) (.inl 1) (fun _ => none)) 15) 0 2 15) (.inl 5) (fun _ => none)) 22 1) 0 3 22) (.inl 5) (fun _ => none)) 39 15) 0 4 39) (.inl 4) (fun _ => none)) (aw_z (cJ_X6 (aw_ext (aw_sp (cO_X6 (aw_ext (aw_sp (cO_X1 (aw_ext (aw_sp (cO_X1 (aw_ext (aw_sp (cO_X1 (aw_ext aw_O7 (.inl 1) (fun _ => none)) 1) 0 0 1) (.inl 1) (fun _ => none)) 8) 0 1 8) (.inl 1) (fun _ => none)) 15) 0 2 15) (.inl 5) (fun _ => none)) 22 1) 0 3 22) (.inl 5) (fun _ => none)) (aw_z (cJ_X6 (aw_ext (aw_sp (cO_X1 (aw_ext (aw_sp (cO_X1 (aw_ext (aw_sp (cO_X1 (aw_ext aw_O7 (.inl 1) (fun _ => none)) 1) 0 0 1) (.inl 1) (fun _ => none)) 8) 0 1 8) (.inl 1) (fun _ => none)) 15) 0 2 15) (.inl 5) (fun _ => none)) (aw_z (cJ_X1 (aw_ext (aw_sp (cO_X1 (aw_ext (aw_sp (cO_X1 (aw_ext aw_O7 (.inl 1) (fun _ => none)) 1) 0 0 1) (.inl 1) (fun _ => none)) 8) 0 1 8) (.inl 1) (fun _ => none)) (aw_z (cJ_X1 (aw_ext (aw_sp (cO_X1 (aw_ext aw_O7 (.inl 1) (fun _ => none)) 1) 0 0 1) (.inl 1) (fun _ => none)) (aw_z (cJ_X1 (aw_ext aw_O7 (.inl 1) (fun _ => none)) (aw_z J 1 0) 1) 8 0) 8) 15 0) 15) 22 0) 22) 39 0) 39) 56 0) 56) 60 0) 60) 64 0)
theorem c7_B : aw_bowl cO_X7 1 := by
  unfold aw_bowl aw_is
  decide +kernel
theorem tX7_init {G : aw_G} {d : Nat} {I : aw_MI} {J : aw_MJ} {Q : aw_O → aw_MI → aw_MJ → Prop} (hd : 4 ≤ d) (hQ : Q cO_X7 (cI_X7 I) (cJ_X7 J)) : aw_Call G MX7_init d 64 647 [.ref (aw_ad G 0)] aw_O7 I J (aw_QV Q) := by
  refine aw_enter (by decide +kernel) rfl (Nat.le_of_ble_eq_true rfl) ?_
  show AW G MX7_init (aw_nx aw_O7) d 64 647 (aw_QV Q) aw_O7 I J 0 0 [.ref (aw_ad G 0)] 0 []
  refine aw_aload_n dX7_init_0 rfl ?_
  refine aw_oi dX7_init_1 oiX7_1 (by omega) (Nat.le_of_ble_eq_true rfl) ?_
  refine aw_aload_n dX7_init_4 rfl ?_
  refine aw_new dX7_init_5 nwX7_7 (by decide) (by decide) ?_
  refine aw_pc (pc2 := 8) rfl ?_
  refine aw_dup dX7_init_8 rfl ?_
  refine aw_cinV (As := []) (d' := d - 1) dX7_init_9 lcX7_9 okX1_init rfl rfl (by omega) rfl rfl (Nat.le_of_ble_eq_true rfl) (by decide) (tX1_init (aw_ext_new _ _ _) (by omega) ?_)
  refine aw_putR (r := 1) dX7_init_12 ffX7_10 (cO_X1_is (aw_ext_is aw_O7_is)) rfl rfl ?_
  refine aw_aload_n dX7_init_15 rfl ?_
  refine aw_new dX7_init_16 nwX7_7 (by decide) (by decide) ?_
  refine aw_pc (pc2 := 19) rfl ?_
  refine aw_dup dX7_init_19 rfl ?_
  refine aw_cinV (As := []) (d' := d - 1) dX7_init_20 lcX7_9 okX1_init rfl rfl (by omega) rfl rfl (Nat.le_of_ble_eq_true rfl) (by decide) (tX1_init (aw_ext_new _ _ _) (by omega) ?_)
  refine aw_putR (r := 8) dX7_init_23 ffX7_16 (cO_X1_is (aw_ext_is (aw_sp_is (cO_X1_is (aw_ext_is aw_O7_is))))) rfl rfl ?_
  refine aw_aload_n dX7_init_26 rfl ?_
  refine aw_new dX7_init_27 nwX7_7 (by decide) (by decide) ?_
  refine aw_pc (pc2 := 30) rfl ?_
  refine aw_dup dX7_init_30 rfl ?_
  refine aw_cinV (As := []) (d' := d - 1) dX7_init_31 lcX7_9 okX1_init rfl rfl (by omega) rfl rfl (Nat.le_of_ble_eq_true rfl) (by decide) (tX1_init (aw_ext_new _ _ _) (by omega) ?_)
  refine aw_putR (r := 15) dX7_init_34 ffX7_19 (cO_X1_is (aw_ext_is (aw_sp_is (cO_X1_is (aw_ext_is (aw_sp_is (cO_X1_is (aw_ext_is aw_O7_is)))))))) rfl rfl ?_
  refine aw_aload_n dX7_init_37 rfl ?_
  refine aw_new dX7_init_38 nwX7_22 (by decide) (by decide) ?_
  refine aw_pc (pc2 := 41) rfl ?_
  refine aw_dup dX7_init_41 rfl ?_
  refine aw_aload_n dX7_init_42 rfl ?_
  refine aw_getR (r := 1) dX7_init_43 flX7_10 (aw_ext_is (aw_sp_is (cO_X1_is (aw_ext_is (aw_sp_is (cO_X1_is (aw_ext_is (aw_sp_is (cO_X1_is (aw_ext_is aw_O7_is)))))))))) (by decide +kernel) ?_
  refine aw_ciV (As := [_]) (d' := d - 1) dX7_init_46 lcX7_24 okX6_init rfl rfl (by omega) rfl rfl (Nat.le_of_ble_eq_true rfl) (by decide) (tX6_init (aw_ext_new _ _ _) (by omega) ?_)
  refine aw_putR (r := 22) dX7_init_49 ffX7_27 (cO_X6_is (aw_ext_is (aw_sp_is (cO_X1_is (aw_ext_is (aw_sp_is (cO_X1_is (aw_ext_is (aw_sp_is (cO_X1_is (aw_ext_is aw_O7_is))))))))))) rfl rfl ?_
  refine aw_pc (pc2 := 52) rfl ?_
  refine aw_aload_n dX7_init_52 rfl ?_
  refine aw_new dX7_init_53 nwX7_22 (by decide) (by decide) ?_
  refine aw_dup dX7_init_56 rfl ?_
  refine aw_aload_n dX7_init_57 rfl ?_
  refine aw_getR (r := 15) dX7_init_58 flX7_19 (aw_ext_is (aw_sp_is (cO_X6_is (aw_ext_is (aw_sp_is (cO_X1_is (aw_ext_is (aw_sp_is (cO_X1_is (aw_ext_is (aw_sp_is (cO_X1_is (aw_ext_is aw_O7_is))))))))))))) (by decide +kernel) ?_
  refine aw_pc (pc2 := 61) rfl ?_
  refine aw_ciV (As := [_]) (d' := d - 1) dX7_init_61 lcX7_24 okX6_init rfl rfl (by omega) rfl rfl (Nat.le_of_ble_eq_true rfl) (by decide) (tX6_init (aw_ext_new _ _ _) (by omega) ?_)
  refine aw_putR (r := 39) dX7_init_64 ffX7_31 (cO_X6_is (aw_ext_is (aw_sp_is (cO_X6_is (aw_ext_is (aw_sp_is (cO_X1_is (aw_ext_is (aw_sp_is (cO_X1_is (aw_ext_is (aw_sp_is (cO_X1_is (aw_ext_is aw_O7_is)))))))))))))) rfl rfl ?_
  refine aw_aload_n dX7_init_67 rfl ?_
  refine aw_new dX7_init_68 nwX7_34 (by decide) (by decide) ?_
  refine aw_dup dX7_init_71 rfl ?_
  refine aw_pc (pc2 := 72) rfl ?_
  refine aw_ciV (As := []) (d' := d - 1) dX7_init_72 lcX7_36 okX5_init rfl rfl (by omega) rfl rfl (Nat.le_of_ble_eq_true rfl) (by decide) (tX5_init (aw_ext_new _ _ _) (by omega) ?_)
  refine aw_putR (r := 56) dX7_init_75 ffX7_37 (cO_X5_is (aw_ext_is (aw_sp_is (cO_X6_is (aw_ext_is (aw_sp_is (cO_X6_is (aw_ext_is (aw_sp_is (cO_X1_is (aw_ext_is (aw_sp_is (cO_X1_is (aw_ext_is (aw_sp_is (cO_X1_is (aw_ext_is aw_O7_is))))))))))))))))) rfl rfl ?_
  refine aw_aload_n dX7_init_78 rfl ?_
  refine aw_new dX7_init_79 nwX7_41 (by decide) (by decide) ?_
  refine aw_dup dX7_init_82 rfl ?_
  refine aw_pc (pc2 := 83) rfl ?_
  refine aw_aload_n dX7_init_83 rfl ?_
  refine aw_getR (r := 1) dX7_init_84 flX7_10 (aw_ext_is (aw_sp_is (cO_X5_is (aw_ext_is (aw_sp_is (cO_X6_is (aw_ext_is (aw_sp_is (cO_X6_is (aw_ext_is (aw_sp_is (cO_X1_is (aw_ext_is (aw_sp_is (cO_X1_is (aw_ext_is (aw_sp_is (cO_X1_is (aw_ext_is aw_O7_is))))))))))))))))))) (by decide +kernel) ?_
  refine aw_ciV (As := [_]) (d' := d - 1) dX7_init_87 lcX7_43 okX2_init rfl rfl (by omega) rfl rfl (Nat.le_of_ble_eq_true rfl) (by decide) (tX2_init (aw_ext_new _ _ _) (by omega) ?_)
  refine aw_putR (r := 60) dX7_init_90 ffX7_44 (cO_X2_is (aw_ext_is (aw_sp_is (cO_X5_is (aw_ext_is (aw_sp_is (cO_X6_is (aw_ext_is (aw_sp_is (cO_X6_is (aw_ext_is (aw_sp_is (cO_X1_is (aw_ext_is (aw_sp_is (cO_X1_is (aw_ext_is (aw_sp_is (cO_X1_is (aw_ext_is aw_O7_is)))))))))))))))))))) rfl rfl ?_
  refine aw_aload_n dX7_init_93 rfl ?_
  refine aw_pc (pc2 := 94) rfl ?_
  refine aw_new dX7_init_94 nwX7_48 (by decide) (by decide) ?_
  refine aw_dup dX7_init_97 rfl ?_
  refine aw_cinV (As := []) (d' := d - 1) dX7_init_98 lcX7_50 okX0_init rfl rfl (by omega) rfl rfl (Nat.le_of_ble_eq_true rfl) (by decide) (tX0_init (aw_ext_new _ _ _) (by omega) ?_)
  refine aw_putR (r := 64) dX7_init_101 ffX7_51 (aw_ext_is (aw_sp_is (cO_X2_is (aw_ext_is (aw_sp_is (cO_X5_is (aw_ext_is (aw_sp_is (cO_X6_is (aw_ext_is (aw_sp_is (cO_X6_is (aw_ext_is (aw_sp_is (cO_X1_is (aw_ext_is (aw_sp_is (cO_X1_is (aw_ext_is (aw_sp_is (cO_X1_is (aw_ext_is aw_O7_is)))))))))))))))))))))) rfl rfl ?_
  refine aw_aload_n dX7_init_104 rfl ?_
  refine aw_pc (pc2 := 105) rfl ?_
  refine aw_getR (r := 1) dX7_init_105 flX7_10 (aw_sp_is (aw_ext_is (aw_sp_is (cO_X2_is (aw_ext_is (aw_sp_is (cO_X5_is (aw_ext_is (aw_sp_is (cO_X6_is (aw_ext_is (aw_sp_is (cO_X6_is (aw_ext_is (aw_sp_is (cO_X1_is (aw_ext_is (aw_sp_is (cO_X1_is (aw_ext_is (aw_sp_is (cO_X1_is (aw_ext_is aw_O7_is))))))))))))))))))))))) (by decide +kernel) ?_
  refine aw_iconst (v := nI 2) dX7_init_108 (by decide) ?_
  refine aw_cvV (As := [_]) (d' := d - 1) dX7_init_109 lkX7_55 c7_B.o (by omega) rfl rfl (Nat.le_of_ble_eq_true rfl) (by decide) (tX1_begin c7_B (by omega) ?_)
  exact aw_vret dX7_init_112 rfl hQ (by decide) (by decide)

/-! CONSTRUCTORS: the reference -/
def aw_O8 : aw_O := aw_ext cO_X7 (.inl 7) (fun _ => none)
theorem aw_O8_is : aw_is aw_O8 65 (.inl 7) := aw_ext_new _ _ _
def cO_X8 : aw_O := (aw_sp (aw_ext (aw_sp (aw_ext (aw_sp (aw_ext (aw_sp (aw_ext (aw_sp (aw_ext (aw_sp (aw_ext (aw_sp (aw_ext (aw_sp (aw_ext (aw_sp (aw_ext (aw_sp (aw_ext (aw_sp (aw_ext (aw_sp (aw_ext (aw_sp (aw_ext (aw_sp (aw_ext (aw_sp (aw_ext (aw_sp (aw_ext (aw_sp (aw_ext (aw_sp (aw_ext aw_O8 (.inr (0, 9)) (fun _ => none)) 65 1 66) (.inr (0, 3)) (fun _ => none)) 65 2 67) (.inr (0, 36)) (fun _ => none)) 65 5 68) (.inr (0, 51)) (fun _ => none)) 65 7 69) (.inr (0, 8)) (fun _ => none)) 65 10 70) (.inr (1, 36)) (fun _ => none)) 65 14 71) (.inr (1, 64)) (fun _ => none)) 65 15 72) (.inr (1, 3)) (fun _ => none)) 65 16 73) (.inr (1, 6)) (fun _ => none)) 65 17 74) (.inr (1, 3)) (fun _ => none)) 65 19 75) (.inr (1, 6)) (fun _ => none)) 65 20 76) (.inr (0, 6)) (fun _ => none)) 65 21 77) (.inr (1, 6)) (fun _ => none)) 65 22 78) (.inr (0, 64)) (fun _ => none)) 65 23 79) (.inr (0, 12)) (fun _ => none)) 65 28 80) (.inr (0, 4)) (fun _ => none)) 65 30 81) (.inr (0, 4)) (fun _ => none)) 65 31 82) (.inr (1, 48)) (fun _ => none)) 65 32 83)
def cI_X8 (I : aw_MI) : aw_MI := (aw_z (aw_z (aw_up (aw_up (aw_up (aw_up (aw_z (aw_z (aw_z (aw_z (aw_z (aw_z (aw_z (aw_z (aw_z (aw_z (aw_z (aw_z (aw_z (aw_z (aw_z (aw_up (aw_up (aw_up (aw_up (aw_up (aw_up (aw_up (aw_up (aw_up (aw_z (aw_up I 65 0 (nI 2)) 66 0) 66 0 (nI 1)) 66 1 (nI 0)) 66 2 (nI 0)) 66 3 (nI 0)) 66 4 (nI 1)) 66 5 (nI 0)) 66 6 (nI 0)) 66 7 (nI 0)) 66 8 (nI 1)) 67 0) 68 0) 69 0) 70 0) 71 0) 72 0) 73 0) 74 0) 75 0) 76 0) 77 0) 78 0) 79 0) 80 0) 81 0) 81 0 (-1)) 81 1 (-1)) 81 2 (-1)) 81 3 (-1)) 82 0) 83 0)
def cJ_X8 (J : aw_MJ) : aw_MJ := (aw_z (aw_z (aw_z (aw_z (aw_z (aw_z (aw_z (aw_z (aw_z (aw_z (aw_z (aw_z (aw_z (aw_z (aw_z (aw_z (aw_z (aw_z J 66 0) 67 0) 68 0) 69 0) 70 0) 71 0) 72 0) 73 0) 74 0) 75 0) 76 0) 77 0) 78 0) 79 0) 80 0) 81 0) 82 0) 83 0)
set_option maxRecDepth 100000 in
theorem tX8_init {G : aw_G} {d : Nat} {I : aw_MI} {J : aw_MJ} {Q : aw_O → aw_MI → aw_MJ → Prop} (hd : 1 ≤ d) (hQ : Q cO_X8 (cI_X8 I) (cJ_X8 J)) : aw_Call G MX8_init d 18 369 [.ref (aw_ad G 65)] aw_O8 I J (aw_QV Q) := by
  refine aw_enter (by decide +kernel) rfl (Nat.le_of_ble_eq_true rfl) ?_
  show AW G MX8_init (aw_nx aw_O8) d 18 369 (aw_QV Q) aw_O8 I J 0 0 [.ref (aw_ad G 65)] 0 []
  refine aw_aload_n dX8_init_0 rfl ?_
  refine aw_oi dX8_init_1 oiX8_1 (by omega) (Nat.le_of_ble_eq_true rfl) ?_
  refine aw_aload_n dX8_init_4 rfl ?_
  refine aw_iconst (v := nI 2) dX8_init_5 (by decide) ?_
  refine aw_pc (pc2 := 6) rfl ?_
  refine aw_putI dX8_init_6 fwX8_7 aw_O8_is rfl ?_
  refine aw_aload_n dX8_init_9 rfl ?_
  refine aw_bipush (v := nI 9) dX8_init_10 (by decide) ?_
  refine aw_newaI (N := 9) dX8_init_12 (by decide) (by decide) (by decide) ?_
  refine aw_dup dX8_init_14 rfl ?_
  refine aw_pc (pc2 := 15) rfl ?_
  refine aw_iconst (v := nI 0) dX8_init_15 (by decide) ?_
  refine aw_iconst (v := nI 1) dX8_init_16 (by decide) ?_
  refine aw_iast (N := 9) dX8_init_17 (aw_ext_new _ _ _) rfl (by decide) rfl ?_
  refine aw_dup dX8_init_18 rfl ?_
  refine aw_iconst (v := nI 1) dX8_init_19 (by decide) ?_
  refine aw_pc (pc2 := 20) rfl ?_
  refine aw_iconst (v := nI 0) dX8_init_20 (by decide) ?_
  refine aw_iast (N := 9) dX8_init_21 (aw_ext_new _ _ _) rfl (by decide) rfl ?_
  refine aw_dup dX8_init_22 rfl ?_
  refine aw_iconst (v := nI 2) dX8_init_23 (by decide) ?_
  refine aw_iconst (v := nI 0) dX8_init_24 (by decide) ?_
  refine aw_pc (pc2 := 25) rfl ?_
  refine aw_iast (N := 9) dX8_init_25 (aw_ext_new _ _ _) rfl (by decide) rfl ?_
  refine aw_dup dX8_init_26 rfl ?_
  refine aw_iconst (v := nI 3) dX8_init_27 (by decide) ?_
  refine aw_iconst (v := nI 0) dX8_init_28 (by decide) ?_
  refine aw_iast (N := 9) dX8_init_29 (aw_ext_new _ _ _) rfl (by decide) rfl ?_
  refine aw_pc (pc2 := 30) rfl ?_
  refine aw_dup dX8_init_30 rfl ?_
  refine aw_iconst (v := nI 4) dX8_init_31 (by decide) ?_
  refine aw_iconst (v := nI 1) dX8_init_32 (by decide) ?_
  refine aw_iast (N := 9) dX8_init_33 (aw_ext_new _ _ _) rfl (by decide) rfl ?_
  refine aw_dup dX8_init_34 rfl ?_
  refine aw_pc (pc2 := 35) rfl ?_
  refine aw_iconst (v := nI 5) dX8_init_35 (by decide) ?_
  refine aw_iconst (v := nI 0) dX8_init_36 (by decide) ?_
  refine aw_iast (N := 9) dX8_init_37 (aw_ext_new _ _ _) rfl (by decide) rfl ?_
  refine aw_dup dX8_init_38 rfl ?_
  refine aw_bipush (v := nI 6) dX8_init_39 (by decide) ?_
  refine aw_pc (pc2 := 41) rfl ?_
  refine aw_iconst (v := nI 0) dX8_init_41 (by decide) ?_
  refine aw_iast (N := 9) dX8_init_42 (aw_ext_new _ _ _) rfl (by decide) rfl ?_
  refine aw_dup dX8_init_43 rfl ?_
  refine aw_bipush (v := nI 7) dX8_init_44 (by decide) ?_
  refine aw_iconst (v := nI 0) dX8_init_46 (by decide) ?_
  refine aw_pc (pc2 := 47) rfl ?_
  refine aw_iast (N := 9) dX8_init_47 (aw_ext_new _ _ _) rfl (by decide) rfl ?_
  refine aw_dup dX8_init_48 rfl ?_
  refine aw_bipush (v := nI 8) dX8_init_49 (by decide) ?_
  refine aw_iconst (v := nI 1) dX8_init_51 (by decide) ?_
  refine aw_iast (N := 9) dX8_init_52 (aw_ext_new _ _ _) rfl (by decide) rfl ?_
  refine aw_pc (pc2 := 53) rfl ?_
  refine aw_putR (r := 66) dX8_init_53 ffX8_13 (aw_ext_is aw_O8_is) rfl rfl ?_
  refine aw_aload_n dX8_init_56 rfl ?_
  refine aw_iconst (v := nI 3) dX8_init_57 (by decide) ?_
  refine aw_newaI (N := 3) dX8_init_58 (by decide) (by decide) (by decide) ?_
  refine aw_putR (r := 67) dX8_init_60 ffX8_17 (aw_ext_is (aw_sp_is (aw_ext_is aw_O8_is))) rfl rfl ?_
  refine aw_pc (pc2 := 63) rfl ?_
  refine aw_aload_n dX8_init_63 rfl ?_
  refine aw_bipush (v := nI 36) dX8_init_64 (by decide) ?_
  refine aw_newaI (N := 36) dX8_init_66 (by decide) (by decide) (by decide) ?_
  refine aw_putR (r := 68) dX8_init_68 ffX8_20 (aw_ext_is (aw_sp_is (aw_ext_is (aw_sp_is (aw_ext_is aw_O8_is))))) rfl rfl ?_
  refine aw_aload_n dX8_init_71 rfl ?_
  refine aw_pc (pc2 := 72) rfl ?_
  refine aw_bipush (v := nI 51) dX8_init_72 (by decide) ?_
  refine aw_newaI (N := 51) dX8_init_74 (by decide) (by decide) (by decide) ?_
  refine aw_putR (r := 69) dX8_init_76 ffX8_23 (aw_ext_is (aw_sp_is (aw_ext_is (aw_sp_is (aw_ext_is (aw_sp_is (aw_ext_is aw_O8_is))))))) rfl rfl ?_
  refine aw_aload_n dX8_init_79 rfl ?_
  refine aw_bipush (v := nI 8) dX8_init_80 (by decide) ?_
  refine aw_pc (pc2 := 82) rfl ?_
  refine aw_newaI (N := 8) dX8_init_82 (by decide) (by decide) (by decide) ?_
  refine aw_putR (r := 70) dX8_init_84 ffX8_26 (aw_ext_is (aw_sp_is (aw_ext_is (aw_sp_is (aw_ext_is (aw_sp_is (aw_ext_is (aw_sp_is (aw_ext_is aw_O8_is))))))))) rfl rfl ?_
  refine aw_aload_n dX8_init_87 rfl ?_
  refine aw_bipush (v := nI 36) dX8_init_88 (by decide) ?_
  refine aw_newaJ (N := 36) dX8_init_90 (by decide) (by decide) (by decide) ?_
  refine aw_pc (pc2 := 92) rfl ?_
  refine aw_putR (r := 71) dX8_init_92 ffX8_29 (aw_ext_is (aw_sp_is (aw_ext_is (aw_sp_is (aw_ext_is (aw_sp_is (aw_ext_is (aw_sp_is (aw_ext_is (aw_sp_is (aw_ext_is aw_O8_is))))))))))) rfl rfl ?_
  refine aw_aload_n dX8_init_95 rfl ?_
  refine aw_bipush (v := nI 64) dX8_init_96 (by decide) ?_
  refine aw_newaJ (N := 64) dX8_init_98 (by decide) (by decide) (by decide) ?_
  refine aw_putR (r := 72) dX8_init_100 ffX8_33 (aw_ext_is (aw_sp_is (aw_ext_is (aw_sp_is (aw_ext_is (aw_sp_is (aw_ext_is (aw_sp_is (aw_ext_is (aw_sp_is (aw_ext_is (aw_sp_is (aw_ext_is aw_O8_is))))))))))))) rfl rfl ?_
  refine aw_pc (pc2 := 103) rfl ?_
  refine aw_aload_n dX8_init_103 rfl ?_
  refine aw_iconst (v := nI 3) dX8_init_104 (by decide) ?_
  refine aw_newaJ (N := 3) dX8_init_105 (by decide) (by decide) (by decide) ?_
  refine aw_putR (r := 73) dX8_init_107 ffX8_36 (aw_ext_is (aw_sp_is (aw_ext_is (aw_sp_is (aw_ext_is (aw_sp_is (aw_ext_is (aw_sp_is (aw_ext_is (aw_sp_is (aw_ext_is (aw_sp_is (aw_ext_is (aw_sp_is (aw_ext_is aw_O8_is))))))))))))))) rfl rfl ?_
  refine aw_aload_n dX8_init_110 rfl ?_
  refine aw_pc (pc2 := 111) rfl ?_
  refine aw_bipush (v := nI 6) dX8_init_111 (by decide) ?_
  refine aw_newaJ (N := 6) dX8_init_113 (by decide) (by decide) (by decide) ?_
  refine aw_putR (r := 74) dX8_init_115 ffX8_39 (aw_ext_is (aw_sp_is (aw_ext_is (aw_sp_is (aw_ext_is (aw_sp_is (aw_ext_is (aw_sp_is (aw_ext_is (aw_sp_is (aw_ext_is (aw_sp_is (aw_ext_is (aw_sp_is (aw_ext_is (aw_sp_is (aw_ext_is aw_O8_is))))))))))))))))) rfl rfl ?_
  refine aw_aload_n dX8_init_118 rfl ?_
  refine aw_iconst (v := nI 3) dX8_init_119 (by decide) ?_
  refine aw_pc (pc2 := 120) rfl ?_
  refine aw_newaJ (N := 3) dX8_init_120 (by decide) (by decide) (by decide) ?_
  refine aw_putR (r := 75) dX8_init_122 ffX8_42 (aw_ext_is (aw_sp_is (aw_ext_is (aw_sp_is (aw_ext_is (aw_sp_is (aw_ext_is (aw_sp_is (aw_ext_is (aw_sp_is (aw_ext_is (aw_sp_is (aw_ext_is (aw_sp_is (aw_ext_is (aw_sp_is (aw_ext_is (aw_sp_is (aw_ext_is aw_O8_is))))))))))))))))))) rfl rfl ?_
  refine aw_aload_n dX8_init_125 rfl ?_
  refine aw_bipush (v := nI 6) dX8_init_126 (by decide) ?_
  refine aw_newaJ (N := 6) dX8_init_128 (by decide) (by decide) (by decide) ?_
  refine aw_pc (pc2 := 130) rfl ?_
  refine aw_putR (r := 76) dX8_init_130 ffX8_45 (aw_ext_is (aw_sp_is (aw_ext_is (aw_sp_is (aw_ext_is (aw_sp_is (aw_ext_is (aw_sp_is (aw_ext_is (aw_sp_is (aw_ext_is (aw_sp_is (aw_ext_is (aw_sp_is (aw_ext_is (aw_sp_is (aw_ext_is (aw_sp_is (aw_ext_is (aw_sp_is (aw_ext_is aw_O8_is))))))))))))))))))))) rfl rfl ?_
  refine aw_aload_n dX8_init_133 rfl ?_
  refine aw_bipush (v := nI 6) dX8_init_134 (by decide) ?_
  refine aw_newaI (N := 6) dX8_init_136 (by decide) (by decide) (by decide) ?_
  refine aw_putR (r := 77) dX8_init_138 ffX8_48 (aw_ext_is (aw_sp_is (aw_ext_is (aw_sp_is (aw_ext_is (aw_sp_is (aw_ext_is (aw_sp_is (aw_ext_is (aw_sp_is (aw_ext_is (aw_sp_is (aw_ext_is (aw_sp_is (aw_ext_is (aw_sp_is (aw_ext_is (aw_sp_is (aw_ext_is (aw_sp_is (aw_ext_is (aw_sp_is (aw_ext_is aw_O8_is))))))))))))))))))))))) rfl rfl ?_
  refine aw_pc (pc2 := 141) rfl ?_
  refine aw_aload_n dX8_init_141 rfl ?_
  refine aw_bipush (v := nI 6) dX8_init_142 (by decide) ?_
  refine aw_newaJ (N := 6) dX8_init_144 (by decide) (by decide) (by decide) ?_
  refine aw_putR (r := 78) dX8_init_146 ffX8_51 (aw_ext_is (aw_sp_is (aw_ext_is (aw_sp_is (aw_ext_is (aw_sp_is (aw_ext_is (aw_sp_is (aw_ext_is (aw_sp_is (aw_ext_is (aw_sp_is (aw_ext_is (aw_sp_is (aw_ext_is (aw_sp_is (aw_ext_is (aw_sp_is (aw_ext_is (aw_sp_is (aw_ext_is (aw_sp_is (aw_ext_is (aw_sp_is (aw_ext_is aw_O8_is))))))))))))))))))))))))) rfl rfl ?_
  refine aw_aload_n dX8_init_149 rfl ?_
  refine aw_pc (pc2 := 150) rfl ?_
  refine aw_bipush (v := nI 64) dX8_init_150 (by decide) ?_
  refine aw_newaI (N := 64) dX8_init_152 (by decide) (by decide) (by decide) ?_
  refine aw_putR (r := 79) dX8_init_154 ffX8_54 (aw_ext_is (aw_sp_is (aw_ext_is (aw_sp_is (aw_ext_is (aw_sp_is (aw_ext_is (aw_sp_is (aw_ext_is (aw_sp_is (aw_ext_is (aw_sp_is (aw_ext_is (aw_sp_is (aw_ext_is (aw_sp_is (aw_ext_is (aw_sp_is (aw_ext_is (aw_sp_is (aw_ext_is (aw_sp_is (aw_ext_is (aw_sp_is (aw_ext_is (aw_sp_is (aw_ext_is aw_O8_is))))))))))))))))))))))))))) rfl rfl ?_
  refine aw_aload_n dX8_init_157 rfl ?_
  refine aw_bipush (v := nI 12) dX8_init_158 (by decide) ?_
  refine aw_pc (pc2 := 160) rfl ?_
  refine aw_newaI (N := 12) dX8_init_160 (by decide) (by decide) (by decide) ?_
  refine aw_putR (r := 80) dX8_init_162 ffX8_57 (aw_ext_is (aw_sp_is (aw_ext_is (aw_sp_is (aw_ext_is (aw_sp_is (aw_ext_is (aw_sp_is (aw_ext_is (aw_sp_is (aw_ext_is (aw_sp_is (aw_ext_is (aw_sp_is (aw_ext_is (aw_sp_is (aw_ext_is (aw_sp_is (aw_ext_is (aw_sp_is (aw_ext_is (aw_sp_is (aw_ext_is (aw_sp_is (aw_ext_is (aw_sp_is (aw_ext_is (aw_sp_is (aw_ext_is aw_O8_is))))))))))))))))))))))))))))) rfl rfl ?_
  refine aw_aload_n dX8_init_165 rfl ?_
  refine aw_iconst (v := nI 4) dX8_init_166 (by decide) ?_
  refine aw_newaI (N := 4) dX8_init_167 (by decide) (by decide) (by decide) ?_
  refine aw_pc (pc2 := 169) rfl ?_
  refine aw_dup dX8_init_169 rfl ?_
  refine aw_iconst (v := nI 0) dX8_init_170 (by decide) ?_
  refine aw_iconst (v := -1) dX8_init_171 (by decide) ?_
  refine aw_iast (N := 4) dX8_init_172 (aw_ext_new _ _ _) rfl (by decide) rfl ?_
  refine aw_dup dX8_init_173 rfl ?_
  refine aw_pc (pc2 := 174) rfl ?_
  refine aw_iconst (v := nI 1) dX8_init_174 (by decide) ?_
  refine aw_iconst (v := -1) dX8_init_175 (by decide) ?_
  refine aw_iast (N := 4) dX8_init_176 (aw_ext_new _ _ _) rfl (by decide) rfl ?_
  refine aw_dup dX8_init_177 rfl ?_
  refine aw_iconst (v := nI 2) dX8_init_178 (by decide) ?_
  refine aw_pc (pc2 := 179) rfl ?_
  refine aw_iconst (v := -1) dX8_init_179 (by decide) ?_
  refine aw_iast (N := 4) dX8_init_180 (aw_ext_new _ _ _) rfl (by decide) rfl ?_
  refine aw_dup dX8_init_181 rfl ?_
  refine aw_iconst (v := nI 3) dX8_init_182 (by decide) ?_
  refine aw_iconst (v := -1) dX8_init_183 (by decide) ?_
  refine aw_pc (pc2 := 184) rfl ?_
  refine aw_iast (N := 4) dX8_init_184 (aw_ext_new _ _ _) rfl (by decide) rfl ?_
  refine aw_putR (r := 81) dX8_init_185 ffX8_60 (aw_ext_is (aw_sp_is (aw_ext_is (aw_sp_is (aw_ext_is (aw_sp_is (aw_ext_is (aw_sp_is (aw_ext_is (aw_sp_is (aw_ext_is (aw_sp_is (aw_ext_is (aw_sp_is (aw_ext_is (aw_sp_is (aw_ext_is (aw_sp_is (aw_ext_is (aw_sp_is (aw_ext_is (aw_sp_is (aw_ext_is (aw_sp_is (aw_ext_is (aw_sp_is (aw_ext_is (aw_sp_is (aw_ext_is (aw_sp_is (aw_ext_is aw_O8_is))))))))))))))))))))))))))))))) rfl rfl ?_
  refine aw_aload_n dX8_init_188 rfl ?_
  refine aw_iconst (v := nI 4) dX8_init_189 (by decide) ?_
  refine aw_newaI (N := 4) dX8_init_190 (by decide) (by decide) (by decide) ?_
  refine aw_pc (pc2 := 192) rfl ?_
  refine aw_putR (r := 82) dX8_init_192 ffX8_63 (aw_ext_is (aw_sp_is (aw_ext_is (aw_sp_is (aw_ext_is (aw_sp_is (aw_ext_is (aw_sp_is (aw_ext_is (aw_sp_is (aw_ext_is (aw_sp_is (aw_ext_is (aw_sp_is (aw_ext_is (aw_sp_is (aw_ext_is (aw_sp_is (aw_ext_is (aw_sp_is (aw_ext_is (aw_sp_is (aw_ext_is (aw_sp_is (aw_ext_is (aw_sp_is (aw_ext_is (aw_sp_is (aw_ext_is (aw_sp_is (aw_ext_is (aw_sp_is (aw_ext_is aw_O8_is))))))))))))))))))))))))))))))))) rfl rfl ?_
  refine aw_aload_n dX8_init_195 rfl ?_
  refine aw_bipush (v := nI 48) dX8_init_196 (by decide) ?_
  refine aw_newaJ (N := 48) dX8_init_198 (by decide) (by decide) (by decide) ?_
  refine aw_putR (r := 83) dX8_init_200 ffX8_66 (aw_ext_is (aw_sp_is (aw_ext_is (aw_sp_is (aw_ext_is (aw_sp_is (aw_ext_is (aw_sp_is (aw_ext_is (aw_sp_is (aw_ext_is (aw_sp_is (aw_ext_is (aw_sp_is (aw_ext_is (aw_sp_is (aw_ext_is (aw_sp_is (aw_ext_is (aw_sp_is (aw_ext_is (aw_sp_is (aw_ext_is (aw_sp_is (aw_ext_is (aw_sp_is (aw_ext_is (aw_sp_is (aw_ext_is (aw_sp_is (aw_ext_is (aw_sp_is (aw_ext_is (aw_sp_is (aw_ext_is aw_O8_is))))))))))))))))))))))))))))))))))) rfl rfl ?_
  refine aw_pc (pc2 := 203) rfl ?_
  exact aw_vret dX8_init_203 rfl hQ (by decide) (by decide)
theorem cO_main : aw_main cO_X8 0 := by
  unfold aw_main aw_solver aw_sheets aw_cert aw_book aw_bowl aw_point aw_is
  repeat' apply And.intro
  all_goals decide +kernel
theorem cO_model : aw_model cO_X8 65 := by
  unfold aw_model aw_is
  repeat' apply And.intro
  all_goals decide +kernel
theorem cO_nx : aw_nx cO_X8 = 84 := by decide +kernel

/-! CONSTRUCTORS: what they link, what they make (printed by my program gen_ctor.py) -/
theorem aw_ciV {G : aw_G} {M M' : aw_M} {N0 d d' mc ms mc' ms' : Nat} {Q : aw_Q} {Ω : aw_O} {I : aw_MI} {J : aw_MJ} {k n : Nat} {lv : List Value} {pc : Nat} {st : List Value} {idx i np : Nat} {As rest : List Value} (hd : decode (aw_cc M) pc = .ok (.invokespecial idx, 3)) (hl : Cond.methodLink (aw_y M).cls idx (aw_y M') ∈ aw_tbl ∧ Cond.instanceMethod (aw_y M') ∈ aw_tbl) (ho : aw_ok M' np) (hrt : aw_rt M' = none) (hnm : (aw_y M').name = "<init>") (hdd : d' + 1 ≤ d) (hn : As.length = np) (hst : st = As.reverse ++ .ref (aw_ad G i) :: rest) (hw : (rest.map fun v => v.category).sum ≤ 8) (hm : k + mc' ≤ mc ∧ n + ms' ≤ ms) (hc : aw_Call G M' d' mc' ms' (.ref (aw_ad G i) :: As) Ω I J (aw_QV (fun Ω' I' J' => AW G M N0 d mc ms Q Ω' I' J' (k + mc') (n + ms') lv (pc + 3) rest))) : AW G M N0 d mc ms Q Ω I J k n lv pc st :=
  aw_ci hd hl ho hrt hnm hdd hn hst hw hc hm (fun v Ω' I' J' q => by obtain ⟨e, q⟩ := q; subst e; exact q)
theorem aw_cinV {G : aw_G} {M M' : aw_M} {N0 d d' mc ms mc' ms' : Nat} {Q : aw_Q} {Ω : aw_O} {I : aw_MI} {J : aw_MJ} {k n : Nat} {lv : List Value} {pc : Nat} {st : List Value} {idx i np : Nat} {As rest : List Value} (hd : decode (aw_cc M) pc = .ok (.invokespecial idx, 3)) (hl : Cond.methodLinkNest (aw_y M).cls idx (aw_y M') RX7 ∈ aw_nest ∧ Cond.instanceMethod (aw_y M') ∈ aw_tbl) (ho : aw_ok M' np) (hrt : aw_rt M' = none) (hnm : (aw_y M').name = "<init>") (hdd : d' + 1 ≤ d) (hn : As.length = np) (hst : st = As.reverse ++ .ref (aw_ad G i) :: rest) (hw : (rest.map fun v => v.category).sum ≤ 8) (hm : k + mc' ≤ mc ∧ n + ms' ≤ ms) (hc : aw_Call G M' d' mc' ms' (.ref (aw_ad G i) :: As) Ω I J (aw_QV (fun Ω' I' J' => AW G M N0 d mc ms Q Ω' I' J' (k + mc') (n + ms') lv (pc + 3) rest))) : AW G M N0 d mc ms Q Ω I J k n lv pc st :=
  aw_cin hd hl ho hrt hnm hdd hn hst hw hc hm (fun v Ω' I' J' q => by obtain ⟨e, q⟩ := q; subst e; exact q)
theorem oiX0_1 : Cond.methodLink RX0 1 Lib.objectInit ∈ aw_tbl := aw_pl 248 (by decide +kernel) rfl
theorem oiX1_3 : Cond.methodLink RX1 3 Lib.objectInit ∈ aw_tbl := aw_pl 80 (by decide +kernel) rfl
theorem ffX1_15 : aw_FF RX1 15 1 3 := ⟨_, _, _, _, aw_C1, by decide, aw_pl 93 (by decide +kernel) rfl, rfl, rfl, rfl, fun _ => ⟨rfl, rfl⟩⟩
theorem ffX1_19 : aw_FF RX1 19 1 4 := ⟨_, _, _, _, aw_C1, by decide, aw_pl 94 (by decide +kernel) rfl, rfl, rfl, rfl, fun _ => ⟨rfl, rfl⟩⟩
theorem ffX1_22 : aw_FF RX1 22 1 5 := ⟨_, _, _, _, aw_C1, by decide, aw_pl 98 (by decide +kernel) rfl, rfl, rfl, rfl, fun _ => ⟨rfl, rfl⟩⟩
theorem ffX1_25 : aw_FF RX1 25 1 6 := ⟨_, _, _, _, aw_C1, by decide, aw_pl 100 (by decide +kernel) rfl, rfl, rfl, rfl, fun _ => ⟨rfl, rfl⟩⟩
theorem ffX1_28 : aw_FF RX1 28 1 7 := ⟨_, _, _, _, aw_C1, by decide, aw_pl 102 (by decide +kernel) rfl, rfl, rfl, rfl, fun _ => ⟨rfl, rfl⟩⟩
theorem ffX1_31 : aw_FF RX1 31 1 8 := ⟨_, _, _, _, aw_C1, by decide, aw_pl 104 (by decide +kernel) rfl, rfl, rfl, rfl, fun _ => ⟨rfl, rfl⟩⟩
theorem oiX2_3 : Cond.methodLink RX2 3 Lib.objectInit ∈ aw_tbl := aw_pl 233 (by decide +kernel) rfl
theorem nwX2_9 : aw_N RX2 9 3 3 := ⟨_, _, _, aw_C3, aw_pl 234 (by decide +kernel) rfl, aw_pl 133 (by decide +kernel) rfl, aw_pl 57 (by decide +kernel) rfl, by decide +kernel⟩
theorem okX4_init : aw_ok MX4_init 0 := ⟨aw_pl 136 (by decide +kernel) rfl, aw_pl 57 (by decide +kernel) rfl, ⟨by decide +kernel, by decide +kernel⟩, by decide +kernel, by decide⟩
theorem viX4_init : Cond.instanceMethod (aw_y MX4_init) ∈ aw_tbl := aw_pl 135 (by decide +kernel) rfl
theorem lcX2_11 : Cond.methodLinkNest RX2 11 (aw_y MX4_init) RX7 ∈ aw_nest ∧ Cond.instanceMethod (aw_y MX4_init) ∈ aw_tbl := ⟨by simp [aw_nest], viX4_init⟩
theorem ffX2_12 : aw_FF RX2 12 2 1 := ⟨_, _, _, _, aw_C2, by decide, aw_pl 237 (by decide +kernel) rfl, rfl, rfl, rfl, fun _ => ⟨rfl, rfl⟩⟩
theorem ffX2_18 : aw_FF RX2 18 2 0 := ⟨_, _, _, _, aw_C2, by decide, aw_pl 236 (by decide +kernel) rfl, rfl, rfl, rfl, fun _ => ⟨rfl, rfl⟩⟩
theorem oiX4_3 : Cond.methodLink RX4 3 Lib.objectInit ∈ aw_tbl := aw_pl 137 (by decide +kernel) rfl
theorem ffX4_9 : aw_FF RX4 9 3 0 := ⟨_, _, _, _, aw_C3, by decide, aw_pl 138 (by decide +kernel) rfl, rfl, rfl, rfl, fun _ => ⟨rfl, rfl⟩⟩
theorem ffX4_15 : aw_FF RX4 15 3 1 := ⟨_, _, _, _, aw_C3, by decide, aw_pl 143 (by decide +kernel) rfl, rfl, rfl, rfl, fun _ => ⟨rfl, rfl⟩⟩
theorem oiX5_3 : Cond.methodLink RX5 3 Lib.objectInit ∈ aw_tbl := aw_pl 212 (by decide +kernel) rfl
theorem ffX5_9 : aw_FF RX5 9 4 0 := ⟨_, _, _, _, aw_C4, by decide, aw_pl 216 (by decide +kernel) rfl, rfl, rfl, rfl, fun _ => ⟨rfl, rfl⟩⟩
theorem ffX5_15 : aw_FF RX5 15 4 1 := ⟨_, _, _, _, aw_C4, by decide, aw_pl 218 (by decide +kernel) rfl, rfl, rfl, rfl, fun _ => ⟨rfl, rfl⟩⟩
theorem ffX5_18 : aw_FF RX5 18 4 2 := ⟨_, _, _, _, aw_C4, by decide, aw_pl 220 (by decide +kernel) rfl, rfl, rfl, rfl, fun _ => ⟨rfl, rfl⟩⟩
theorem oiX6_3 : Cond.methodLink RX6 3 Lib.objectInit ∈ aw_tbl := aw_pl 131 (by decide +kernel) rfl
theorem nwX6_9 : aw_N RX6 9 3 3 := ⟨_, _, _, aw_C3, aw_pl 132 (by decide +kernel) rfl, aw_pl 133 (by decide +kernel) rfl, aw_pl 57 (by decide +kernel) rfl, by decide +kernel⟩
theorem lcX6_11 : Cond.methodLinkNest RX6 11 (aw_y MX4_init) RX7 ∈ aw_nest ∧ Cond.instanceMethod (aw_y MX4_init) ∈ aw_tbl := ⟨by simp [aw_nest], viX4_init⟩
theorem ffX6_12 : aw_FF RX6 12 5 1 := ⟨_, _, _, _, aw_C5, by decide, aw_pl 163 (by decide +kernel) rfl, rfl, rfl, rfl, fun _ => ⟨rfl, rfl⟩⟩
theorem ffX6_18 : aw_FF RX6 18 5 2 := ⟨_, _, _, _, aw_C5, by decide, aw_pl 165 (by decide +kernel) rfl, rfl, rfl, rfl, fun _ => ⟨rfl, rfl⟩⟩
theorem ffX6_21 : aw_FF RX6 21 5 3 := ⟨_, _, _, _, aw_C5, by decide, aw_pl 166 (by decide +kernel) rfl, rfl, rfl, rfl, fun _ => ⟨rfl, rfl⟩⟩
theorem maX6_25 : Cond.classLink RX6 25 "[[J" ∈ aw_tbl := aw_pl 160 (by decide +kernel) rfl
theorem ffX6_27 : aw_FF RX6 27 5 7 := ⟨_, _, _, _, aw_C5, by decide, aw_pl 174 (by decide +kernel) rfl, rfl, rfl, rfl, fun _ => ⟨rfl, rfl⟩⟩
theorem ffX6_30 : aw_FF RX6 30 5 8 := ⟨_, _, _, _, aw_C5, by decide, aw_pl 175 (by decide +kernel) rfl, rfl, rfl, rfl, fun _ => ⟨rfl, rfl⟩⟩
theorem ffX6_33 : aw_FF RX6 33 5 9 := ⟨_, _, _, _, aw_C5, by decide, aw_pl 176 (by decide +kernel) rfl, rfl, rfl, rfl, fun _ => ⟨rfl, rfl⟩⟩
theorem ffX6_36 : aw_FF RX6 36 5 0 := ⟨_, _, _, _, aw_C5, by decide, aw_pl 162 (by decide +kernel) rfl, rfl, rfl, rfl, fun _ => ⟨rfl, rfl⟩⟩
theorem oiX7_1 : Cond.methodLink RX7 1 Lib.objectInit ∈ aw_tbl := aw_pl 72 (by decide +kernel) rfl
theorem nwX7_7 : aw_N RX7 7 1 9 := ⟨_, _, _, aw_C1, aw_pl 75 (by decide +kernel) rfl, aw_pl 76 (by decide +kernel) rfl, aw_pl 55 (by decide +kernel) rfl, by decide +kernel⟩
theorem okX1_init : aw_ok MX1_init 0 := ⟨aw_pl 79 (by decide +kernel) rfl, aw_pl 55 (by decide +kernel) rfl, ⟨by decide +kernel, by decide +kernel⟩, by decide +kernel, by decide⟩
theorem viX1_init : Cond.instanceMethod (aw_y MX1_init) ∈ aw_tbl := aw_pl 78 (by decide +kernel) rfl
theorem lcX7_9 : Cond.methodLinkNest RX7 9 (aw_y MX1_init) RX7 ∈ aw_nest ∧ Cond.instanceMethod (aw_y MX1_init) ∈ aw_tbl := ⟨by simp [aw_nest], viX1_init⟩
theorem ffX7_10 : aw_FF RX7 10 6 0 := ⟨_, _, _, _, aw_C6, by decide, aw_pl 282 (by decide +kernel) rfl, rfl, rfl, rfl, fun _ => ⟨rfl, rfl⟩⟩
theorem ffX7_16 : aw_FF RX7 16 6 1 := ⟨_, _, _, _, aw_C6, by decide, aw_pl 283 (by decide +kernel) rfl, rfl, rfl, rfl, fun _ => ⟨rfl, rfl⟩⟩
theorem ffX7_19 : aw_FF RX7 19 6 2 := ⟨_, _, _, _, aw_C6, by decide, aw_pl 284 (by decide +kernel) rfl, rfl, rfl, rfl, fun _ => ⟨rfl, rfl⟩⟩
theorem nwX7_22 : aw_N RX7 22 5 13 := ⟨_, _, _, aw_C5, aw_pl 126 (by decide +kernel) rfl, aw_pl 127 (by decide +kernel) rfl, aw_pl 56 (by decide +kernel) rfl, by decide +kernel⟩
theorem okX6_init : aw_ok MX6_init 1 := ⟨aw_pl 130 (by decide +kernel) rfl, aw_pl 56 (by decide +kernel) rfl, ⟨by decide +kernel, by decide +kernel⟩, by decide +kernel, by decide⟩
theorem viX6_init : Cond.instanceMethod (aw_y MX6_init) ∈ aw_tbl := aw_pl 129 (by decide +kernel) rfl
theorem lcX7_24 : Cond.methodLink RX7 24 (aw_y MX6_init) ∈ aw_tbl ∧ Cond.instanceMethod (aw_y MX6_init) ∈ aw_tbl := ⟨aw_pl 128 (by decide +kernel) rfl, viX6_init⟩
theorem ffX7_27 : aw_FF RX7 27 6 3 := ⟨_, _, _, _, aw_C6, by decide, aw_pl 285 (by decide +kernel) rfl, rfl, rfl, rfl, fun _ => ⟨rfl, rfl⟩⟩
theorem ffX7_31 : aw_FF RX7 31 6 4 := ⟨_, _, _, _, aw_C6, by decide, aw_pl 286 (by decide +kernel) rfl, rfl, rfl, rfl, fun _ => ⟨rfl, rfl⟩⟩
theorem nwX7_34 : aw_N RX7 34 4 3 := ⟨_, _, _, aw_C4, aw_pl 207 (by decide +kernel) rfl, aw_pl 208 (by decide +kernel) rfl, aw_pl 58 (by decide +kernel) rfl, by decide +kernel⟩
theorem okX5_init : aw_ok MX5_init 0 := ⟨aw_pl 211 (by decide +kernel) rfl, aw_pl 58 (by decide +kernel) rfl, ⟨by decide +kernel, by decide +kernel⟩, by decide +kernel, by decide⟩
theorem viX5_init : Cond.instanceMethod (aw_y MX5_init) ∈ aw_tbl := aw_pl 210 (by decide +kernel) rfl
theorem lcX7_36 : Cond.methodLink RX7 36 (aw_y MX5_init) ∈ aw_tbl ∧ Cond.instanceMethod (aw_y MX5_init) ∈ aw_tbl := ⟨aw_pl 209 (by decide +kernel) rfl, viX5_init⟩
theorem ffX7_37 : aw_FF RX7 37 6 5 := ⟨_, _, _, _, aw_C6, by decide, aw_pl 287 (by decide +kernel) rfl, rfl, rfl, rfl, fun _ => ⟨rfl, rfl⟩⟩
theorem nwX7_41 : aw_N RX7 41 2 2 := ⟨_, _, _, aw_C2, aw_pl 228 (by decide +kernel) rfl, aw_pl 229 (by decide +kernel) rfl, aw_pl 60 (by decide +kernel) rfl, by decide +kernel⟩
theorem okX2_init : aw_ok MX2_init 1 := ⟨aw_pl 232 (by decide +kernel) rfl, aw_pl 60 (by decide +kernel) rfl, ⟨by decide +kernel, by decide +kernel⟩, by decide +kernel, by decide⟩
theorem viX2_init : Cond.instanceMethod (aw_y MX2_init) ∈ aw_tbl := aw_pl 231 (by decide +kernel) rfl
theorem lcX7_43 : Cond.methodLink RX7 43 (aw_y MX2_init) ∈ aw_tbl ∧ Cond.instanceMethod (aw_y MX2_init) ∈ aw_tbl := ⟨aw_pl 230 (by decide +kernel) rfl, viX2_init⟩
theorem ffX7_44 : aw_FF RX7 44 6 6 := ⟨_, _, _, _, aw_C6, by decide, aw_pl 288 (by decide +kernel) rfl, rfl, rfl, rfl, fun _ => ⟨rfl, rfl⟩⟩
theorem nwX7_48 : aw_N RX7 48 0 5 := ⟨_, _, _, aw_C0, aw_pl 243 (by decide +kernel) rfl, aw_pl 244 (by decide +kernel) rfl, aw_pl 61 (by decide +kernel) rfl, by decide +kernel⟩
theorem okX0_init : aw_ok MX0_init 0 := ⟨aw_pl 247 (by decide +kernel) rfl, aw_pl 61 (by decide +kernel) rfl, ⟨by decide +kernel, by decide +kernel⟩, by decide +kernel, by decide⟩
theorem viX0_init : Cond.instanceMethod (aw_y MX0_init) ∈ aw_tbl := aw_pl 246 (by decide +kernel) rfl
theorem lcX7_50 : Cond.methodLinkNest RX7 50 (aw_y MX0_init) RX7 ∈ aw_nest ∧ Cond.instanceMethod (aw_y MX0_init) ∈ aw_tbl := ⟨by simp [aw_nest], viX0_init⟩
theorem ffX7_51 : aw_FF RX7 51 6 7 := ⟨_, _, _, _, aw_C6, by decide, aw_pl 289 (by decide +kernel) rfl, rfl, rfl, rfl, fun _ => ⟨rfl, rfl⟩⟩
theorem oiX8_1 : Cond.methodLink RX8 1 Lib.objectInit ∈ aw_tbl := aw_pl 784 (by decide +kernel) rfl
theorem ffX8_13 : aw_FF RX8 13 7 1 := ⟨_, _, _, _, aw_C7, by decide, aw_pl 786 (by decide +kernel) rfl, rfl, rfl, rfl, fun _ => ⟨rfl, rfl⟩⟩
theorem ffX8_17 : aw_FF RX8 17 7 2 := ⟨_, _, _, _, aw_C7, by decide, aw_pl 787 (by decide +kernel) rfl, rfl, rfl, rfl, fun _ => ⟨rfl, rfl⟩⟩
theorem ffX8_20 : aw_FF RX8 20 7 5 := ⟨_, _, _, _, aw_C7, by decide, aw_pl 790 (by decide +kernel) rfl, rfl, rfl, rfl, fun _ => ⟨rfl, rfl⟩⟩
theorem ffX8_23 : aw_FF RX8 23 7 7 := ⟨_, _, _, _, aw_C7, by decide, aw_pl 792 (by decide +kernel) rfl, rfl, rfl, rfl, fun _ => ⟨rfl, rfl⟩⟩
theorem ffX8_26 : aw_FF RX8 26 7 10 := ⟨_, _, _, _, aw_C7, by decide, aw_pl 795 (by decide +kernel) rfl, rfl, rfl, rfl, fun _ => ⟨rfl, rfl⟩⟩
theorem ffX8_29 : aw_FF RX8 29 7 14 := ⟨_, _, _, _, aw_C7, by decide, aw_pl 799 (by decide +kernel) rfl, rfl, rfl, rfl, fun _ => ⟨rfl, rfl⟩⟩
theorem ffX8_33 : aw_FF RX8 33 7 15 := ⟨_, _, _, _, aw_C7, by decide, aw_pl 800 (by decide +kernel) rfl, rfl, rfl, rfl, fun _ => ⟨rfl, rfl⟩⟩
theorem ffX8_36 : aw_FF RX8 36 7 16 := ⟨_, _, _, _, aw_C7, by decide, aw_pl 801 (by decide +kernel) rfl, rfl, rfl, rfl, fun _ => ⟨rfl, rfl⟩⟩
theorem ffX8_39 : aw_FF RX8 39 7 17 := ⟨_, _, _, _, aw_C7, by decide, aw_pl 802 (by decide +kernel) rfl, rfl, rfl, rfl, fun _ => ⟨rfl, rfl⟩⟩
theorem ffX8_42 : aw_FF RX8 42 7 19 := ⟨_, _, _, _, aw_C7, by decide, aw_pl 804 (by decide +kernel) rfl, rfl, rfl, rfl, fun _ => ⟨rfl, rfl⟩⟩
theorem ffX8_45 : aw_FF RX8 45 7 20 := ⟨_, _, _, _, aw_C7, by decide, aw_pl 805 (by decide +kernel) rfl, rfl, rfl, rfl, fun _ => ⟨rfl, rfl⟩⟩
theorem ffX8_48 : aw_FF RX8 48 7 21 := ⟨_, _, _, _, aw_C7, by decide, aw_pl 806 (by decide +kernel) rfl, rfl, rfl, rfl, fun _ => ⟨rfl, rfl⟩⟩
theorem ffX8_51 : aw_FF RX8 51 7 22 := ⟨_, _, _, _, aw_C7, by decide, aw_pl 807 (by decide +kernel) rfl, rfl, rfl, rfl, fun _ => ⟨rfl, rfl⟩⟩
theorem ffX8_54 : aw_FF RX8 54 7 23 := ⟨_, _, _, _, aw_C7, by decide, aw_pl 808 (by decide +kernel) rfl, rfl, rfl, rfl, fun _ => ⟨rfl, rfl⟩⟩
theorem ffX8_57 : aw_FF RX8 57 7 28 := ⟨_, _, _, _, aw_C7, by decide, aw_pl 813 (by decide +kernel) rfl, rfl, rfl, rfl, fun _ => ⟨rfl, rfl⟩⟩
theorem ffX8_60 : aw_FF RX8 60 7 30 := ⟨_, _, _, _, aw_C7, by decide, aw_pl 815 (by decide +kernel) rfl, rfl, rfl, rfl, fun _ => ⟨rfl, rfl⟩⟩
theorem ffX8_63 : aw_FF RX8 63 7 31 := ⟨_, _, _, _, aw_C7, by decide, aw_pl 816 (by decide +kernel) rfl, rfl, rfl, rfl, fun _ => ⟨rfl, rfl⟩⟩
theorem ffX8_66 : aw_FF RX8 66 7 32 := ⟨_, _, _, _, aw_C7, by decide, aw_pl 817 (by decide +kernel) rfl, rfl, rfl, rfl, fun _ => ⟨rfl, rfl⟩⟩
theorem nwL_7 : aw_N RL 7 6 9 := ⟨_, _, _, aw_C6, aw_pl 67 (by decide +kernel) rfl, aw_pl 68 (by decide +kernel) rfl, aw_pl 54 (by decide +kernel) rfl, by decide +kernel⟩
theorem okX7_init : aw_ok MX7_init 0 := ⟨aw_pl 71 (by decide +kernel) rfl, aw_pl 54 (by decide +kernel) rfl, ⟨by decide +kernel, by decide +kernel⟩, by decide +kernel, by decide⟩
theorem viX7_init : Cond.instanceMethod (aw_y MX7_init) ∈ aw_tbl := aw_pl 70 (by decide +kernel) rfl
theorem lcL_9 : Cond.methodLink RL 9 (aw_y MX7_init) ∈ aw_tbl ∧ Cond.instanceMethod (aw_y MX7_init) ∈ aw_tbl := ⟨aw_pl 69 (by decide +kernel) rfl, viX7_init⟩
theorem nwL_10 : aw_N RL 10 7 33 := ⟨_, _, _, aw_C7, aw_pl 779 (by decide +kernel) rfl, aw_pl 780 (by decide +kernel) rfl, aw_pl 62 (by decide +kernel) rfl, by decide +kernel⟩
theorem okX8_init : aw_ok MX8_init 0 := ⟨aw_pl 783 (by decide +kernel) rfl, aw_pl 62 (by decide +kernel) rfl, ⟨by decide +kernel, by decide +kernel⟩, by decide +kernel, by decide⟩
theorem viX8_init : Cond.instanceMethod (aw_y MX8_init) ∈ aw_tbl := aw_pl 782 (by decide +kernel) rfl
theorem lcL_12 : Cond.methodLink RL 12 (aw_y MX8_init) ∈ aw_tbl ∧ Cond.instanceMethod (aw_y MX8_init) ∈ aw_tbl := ⟨aw_pl 781 (by decide +kernel) rfl, viX8_init⟩

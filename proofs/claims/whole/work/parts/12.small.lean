/-! FRACTIONS, the JDK's small methods, the BOOK, the SHEETS -/
theorem aw_frg {G : aw_G} {M : aw_M} {N0 d mc ms : Nat} {Q : aw_Q} {Ω : aw_O} {I : aw_MI} {J : aw_MJ} {k n : Nat} {lv : List Value} {pc : Nat} {st : List Value} (i : Nat) (kk : AW G M N0 d mc ms Q Ω I J k n (lv.set i .null) pc st) : AW G M N0 d mc ms Q Ω I J k n lv pc st := by
  intro p e R s m args below meth c H locs ls Z hF hl hR hS hE
  refine kk p e R s m args below meth c H locs ls Z hF ⟨hl.1, hl.2.1, fun q hq => ?_⟩ hR hS hE
  obtain ⟨j, w⟩ := q
  obtain ⟨h0, h2, h3⟩ := (aw_al_mem _ 0 j w).mp hq
  refine hl.2.2 (j, w) ((aw_al_mem _ 0 j w).mpr ⟨h0, ?_, h3⟩)
  simp only [Nat.sub_zero] at h2 ⊢
  by_cases hj : j = i
  · subst hj
    have hl2 : j < lv.length := by
      have := (List.getElem?_eq_some_iff.mp h2).1
      simpa using this
    rw [List.getElem?_set_self hl2] at h2
    exact absurd (Option.some.inj h2).symm h3
  · rw [List.getElem?_set_ne (Ne.symm hj)] at h2
    exact h2
theorem aw_enterF {G : aw_G} {M : aw_M} {d mc ms : Nat} {Ω : aw_O} {I : aw_MI} {J : aw_MJ} {Q : aw_Q} {av : List Value} (hy : plainFor (aw_y M) = true) (hsc : aw_scr M = []) (hlen : (lg_sl av).length ≤ aw_nL M) (body : AW G M (aw_nx Ω) d mc ms Q Ω I J 0 0 (aw_in av ++ List.replicate (aw_nL M - (aw_in av).length) .null) 0 []) : aw_Call G M d mc ms av Ω I J Q := by
  refine va_MetF (cc := aw_cc M) (maxL := aw_nL M) (ret := aw_rt M) hy rfl ?_
  intro p e s m args below meth c s₁ B hml hv
  obtain ⟨rfl, hK, hR⟩ := hv
  have hts := atoms_spec (ws := Cond.code (aw_y M) (aw_cc M) (aw_nL M) (aw_rt M) :: aw_tbl) B.pre
  have hown : s.vm.findClass (aw_y M).cls = some m.cls := findClass_of_methodNamed B.named
  have hnm : meth.name = (aw_y M).name := (name_of_methodNamed B.named B.method).1
  have hl0 := lv_entry av (n := aw_nL M) hlen
  rw [lg_entry_eq]
  generalize (lg_sl av ++ List.replicate (aw_nL M - (lg_sl av).length) Slot.unset).toArray = ls at hl0 ⊢
  have hl : aw_L ls (aw_nL M) (aw_in av ++ List.replicate (aw_nL M - (aw_in av).length) .null) := ⟨hl0.1, hl0.2.1, fun q hq => hl0.2.2 q (aw_in_mem av 0 q (aw_al_app _ 0 _ q hq))⟩
  refine body p e _ s m av.toArray below meth c s.heap [] ls _ ⟨B.exec, B.bytes, B.returns, B.notSynchronized, hml, hown, fun w hw => hts w (List.mem_cons_of_mem _ hw), hK, hnm, Nat.le_refl _, Nat.le_refl _, Nat.le_refl _, Nat.le_refl _, hR.2, fun q hq => by rw [hsc] at hq; cases hq⟩ hl hR va_S.rf ?_
  intro v Ω' I' J' H' locs' k' n' pc' ls' hq hR' hS' hk hn hrok
  refine W.widen (k := mc) (n := ms) hk hn ?_
  have hpost : ∀ t : State, t.heap = H' → aw_Qc G Q av.toArray s (.returned v) t := fun t ht => ⟨⟨v, Ω', I', J', rfl, hq, by rw [ht]; exact hR'⟩, hS'.F ht⟩
  have hlk := B.notSynchronized
  rcases hrok with ⟨x, rfl, hd, ty, hr, hn⟩ | ⟨x, rfl, hd, hr⟩ | ⟨rfl, hd, hr⟩
  · exact W.zret (ty := ty) B.exec B.bytes (B.returns.trans hr) hn (fun t ht _ => hpost t ht) hS'.2.2 hd
  · exact W.lret B.exec B.bytes (B.returns.trans hr) (fun t ht _ => hpost t ht) hS'.2.2 hd
  · exact W.vret B.exec B.bytes (B.returns.trans hr) (fun t ht _ => hpost t ht) hS'.2.2 hd
theorem nrm_le (a b : Int32) : a ≤ b ↔ ¬ b < a := Int32.not_lt.symm
theorem nrm_le64 (a b : Int64) : a ≤ b ↔ ¬ b < a := Int64.not_lt.symm
theorem lcmpE {x y : Int64} : lg_cmp x y = 0 ↔ x = y := by
  unfold lg_cmp
  by_cases h : x > y
  · rw [if_pos h]
    refine ⟨fun q => absurd q (by decide), fun q => ?_⟩
    subst q
    have h2 := Int64.lt_iff_toInt_lt.mp h
    omega
  · rw [if_neg h]
    by_cases h2 : x = y
    · rw [if_pos h2]
      exact ⟨fun _ => h2, fun _ => rfl⟩
    · rw [if_neg h2]
      exact ⟨fun q => absurd q (by decide), fun q => absurd q h2⟩
theorem lcmpG {x y : Int64} : 0 ≤ lg_cmp x y ↔ ¬ x < y := by
  rw [← lcmpL, nrm_le]
theorem lcmpGT {x y : Int64} : 0 < lg_cmp x y ↔ y < x := by
  unfold lg_cmp
  by_cases h : x > y
  · rw [if_pos h]
    exact ⟨fun _ => h, fun _ => by decide⟩
  · rw [if_neg h]
    by_cases h2 : x = y
    · rw [if_pos h2]
      exact ⟨fun q => absurd q (by decide), fun q => absurd q h⟩
    · rw [if_neg h2]
      exact ⟨fun q => absurd q (by decide), fun q => absurd q h⟩
theorem lcmpLE {x y : Int64} : lg_cmp x y ≤ 0 ↔ ¬ y < x := by
  rw [← lcmpGT, nrm_le]
def sp_abs (x : Int64) : Int64 := if x < 0 then -x else x
def sp_fdiv (x y : Int64) : Int64 := if x ^^^ y < 0 then (if x / y * y = x then x / y else x / y - 1) else x / y
def sp_gcd : Nat → Int64 → Int64 → Int64
  | 0, x, _ => x
  | z + 1, x, y => if y = 0 then x else sp_gcd z y (x - x / y * y)
def sp_sh (a b : Int64) : Int64 := sp_gcd 100 (sp_abs a) (sp_abs b)
def sp_told (a b : Int64) (pt : Int32) : Int64 := if sp_sh b a = 0 then 0 else if pt = 0 then a / sp_sh b a else b / sp_sh b a
def sp_less : Nat → Int64 → Int64 → Int64 → Int64 → Int32
  | 0, _, _, _, _ => nI 0
  | z + 1, p, q, r, s => if 0 < q then (if 0 < s then (if sp_fdiv p q = sp_fdiv r s then (if p - sp_fdiv p q * q = 0 then (if r - sp_fdiv r s * s = 0 then nI 0 else nI 1) else if r - sp_fdiv r s * s = 0 then nI 0 else sp_less z s (r - sp_fdiv r s * s) q (p - sp_fdiv p q * q)) else if sp_fdiv p q < sp_fdiv r s then nI 1 else nI 0) else nI 0) else nI 0
def sp_room (len i n : Int32) : Int32 := if n < 0 then nI 0 else if i < 0 then nI 0 else if len < i then nI 0 else if len - i < n then nI 0 else nI 1
def sp_in (x : Nat → Int64) (most : Int64) : Nat → Nat → Int32
  | _, 0 => nI 1
  | k, z + 1 => if x k < -most then nI 0 else if most < x k then nI 0 else sp_in x most (k + 1) z
/-- places lo .. lo + n - 1 of a cell hold one number -/
def aw_fr {α : Type} (I : Nat → Nat → α) (a lo n : Nat) (v : α) : Nat → Nat → α := fun a' k => if a' = a ∧ lo ≤ k ∧ k < lo + n then v else I a' k
theorem aw_fr_0 {α : Type} (I : Nat → Nat → α) (a lo : Nat) (v : α) : I = aw_fr I a lo 0 v := by
  funext a' k
  unfold aw_fr
  rw [if_neg (by omega)]
theorem aw_fr_s {α : Type} (I : Nat → Nat → α) (a lo n : Nat) (v : α) : aw_up (aw_fr I a lo n v) a (lo + n) v = aw_fr I a lo (n + 1) v := by
  funext a' k
  unfold aw_up aw_fr
  by_cases h : a' = a
  · by_cases h2 : k = lo + n
    · rw [if_pos ⟨h, h2⟩, if_pos (by omega)]
    · rw [if_neg (fun q => h2 q.2)]
      by_cases h3 : lo ≤ k ∧ k < lo + n
      · rw [if_pos (by omega), if_pos (by omega)]
      · rw [if_neg (by omega), if_neg (by omega)]
  · rw [if_neg (fun q => h q.1), if_neg (fun q => h q.1), if_neg (fun q => h q.1)]

theorem lcX1_53 : aw_LC RX1 53 := ⟨aw_pl 375 (by decide +kernel) rfl, aw_pl 377 (by decide +kernel) rfl, aw_pl 376 (by decide +kernel) rfl, aw_pl 63 (by decide +kernel) rfl⟩
theorem lcX5_32 : aw_LC RX5 32 := ⟨aw_pl 762 (by decide +kernel) rfl, aw_pl 377 (by decide +kernel) rfl, aw_pl 376 (by decide +kernel) rfl, aw_pl 63 (by decide +kernel) rfl⟩
theorem tJ9_abs_067f4 {G : aw_G} {d : Nat} {Ω : aw_O} {I : aw_MI} {J : aw_MJ} {Q : Int64 → aw_O → aw_MI → aw_MJ → Prop} {x : Int64} (hQ : Q (sp_abs x) Ω I J) : aw_Call G MJ9_abs_067f4 d 0 0 [.long x] Ω I J (aw_QL Q) := by
  refine aw_enterF (by decide +kernel) rfl (Nat.le_of_ble_eq_true rfl) ?_
  show AW G MJ9_abs_067f4 (aw_nx Ω) d 0 0 (aw_QL Q) Ω I J 0 0 [.long x, .null] 0 []
  refine aw_lload_n dJ9_abs_067f4_0 rfl ?_
  refine aw_lconst (v := 0) dJ9_abs_067f4_1 (by decide) ?_
  refine aw_lcmp dJ9_abs_067f4_2 ?_
  refine aw_if_ge (t := 11) dJ9_abs_067f4_3 (by decide) (fun h1 => ?_) (fun h1 => ?_)
  · skip
    refine aw_lload_n dJ9_abs_067f4_11 rfl ?_
    try simp only [lcmpE, lcmpL, lcmpG, lcmpLE, lcmpGT, nrm_le, nrm_le64, Classical.not_not] at h1
    exact aw_lret dJ9_abs_067f4_12 rfl (by first | (simp only [sp_abs, if_neg h1] at hQ; exact hQ) | contradiction) (Nat.zero_le _) (Nat.zero_le _)
  · skip
    refine aw_lload_n dJ9_abs_067f4_6 rfl ?_
    refine aw_lneg dJ9_abs_067f4_7 ?_
    refine aw_goto (t := 12) dJ9_abs_067f4_8 (by decide) ?_
    try simp only [lcmpE, lcmpL, lcmpG, lcmpLE, lcmpGT, nrm_le, nrm_le64, Classical.not_not] at h1
    exact aw_lret dJ9_abs_067f4_12 rfl (by first | (simp only [sp_abs, if_pos h1] at hQ; exact hQ) | contradiction) (Nat.zero_le _) (Nat.zero_le _)
theorem tJ9_floorDiv_f86c9 {G : aw_G} {d : Nat} {Ω : aw_O} {I : aw_MI} {J : aw_MJ} {Q : Int64 → aw_O → aw_MI → aw_MJ → Prop} {x y : Int64} (hy : ¬ y = 0) (hQ : Q (sp_fdiv x y) Ω I J) : aw_Call G MJ9_floorDiv_f86c9 d 0 0 [.long x, .long y] Ω I J (aw_QL Q) := by
  refine aw_enterF (by decide +kernel) rfl (Nat.le_of_ble_eq_true rfl) ?_
  show AW G MJ9_floorDiv_f86c9 (aw_nx Ω) d 0 0 (aw_QL Q) Ω I J 0 0 [.long x, .null, .long y, .null, .null, .null] 0 []
  refine aw_lload_n dJ9_floorDiv_f86c9_0 rfl ?_
  refine aw_lload_n dJ9_floorDiv_f86c9_1 rfl ?_
  refine aw_ldiv dJ9_floorDiv_f86c9_2 (by assumption) ?_
  refine aw_lstore dJ9_floorDiv_f86c9_3 (by decide) ?_
  refine aw_lv (lv2 := [.long _, .null, .long _, .null, .long _, .null]) rfl ?_
  refine aw_lload_n dJ9_floorDiv_f86c9_5 rfl ?_
  refine aw_pc (pc2 := 6) rfl ?_
  refine aw_lload_n dJ9_floorDiv_f86c9_6 rfl ?_
  refine aw_lxor dJ9_floorDiv_f86c9_7 ?_
  refine aw_lconst (v := 0) dJ9_floorDiv_f86c9_8 (by decide) ?_
  refine aw_lcmp dJ9_floorDiv_f86c9_9 ?_
  refine aw_if_ge (t := 27) dJ9_floorDiv_f86c9_10 (by decide) (fun h1 => ?_) (fun h1 => ?_)
  · skip
    refine aw_lload dJ9_floorDiv_f86c9_27 rfl ?_
    try simp only [lcmpE, lcmpL, lcmpG, lcmpLE, lcmpGT, nrm_le, nrm_le64, Classical.not_not] at h1
    exact aw_lret dJ9_floorDiv_f86c9_29 rfl (by first | (simp only [sp_fdiv, if_neg h1] at hQ; exact hQ) | contradiction) (Nat.zero_le _) (Nat.zero_le _)
  · skip
    refine aw_lload dJ9_floorDiv_f86c9_13 rfl ?_
    refine aw_lload_n dJ9_floorDiv_f86c9_15 rfl ?_
    refine aw_lmul dJ9_floorDiv_f86c9_16 ?_
    refine aw_lload_n dJ9_floorDiv_f86c9_17 rfl ?_
    refine aw_lcmp dJ9_floorDiv_f86c9_18 ?_
    refine aw_pc (pc2 := 19) rfl ?_
    refine aw_if_eq (t := 27) dJ9_floorDiv_f86c9_19 (by decide) (fun h2 => ?_) (fun h2 => ?_)
    · skip
      refine aw_lload dJ9_floorDiv_f86c9_27 rfl ?_
      try simp only [lcmpE, lcmpL, lcmpG, lcmpLE, lcmpGT, nrm_le, nrm_le64, Classical.not_not] at h1
      try simp only [lcmpE, lcmpL, lcmpG, lcmpLE, lcmpGT, nrm_le, nrm_le64, Classical.not_not] at h2
      exact aw_lret dJ9_floorDiv_f86c9_29 rfl (by first | (simp only [sp_fdiv, if_pos h1, if_pos h2] at hQ; exact hQ) | contradiction) (Nat.zero_le _) (Nat.zero_le _)
    · skip
      refine aw_lload dJ9_floorDiv_f86c9_22 rfl ?_
      refine aw_lconst (v := 1) dJ9_floorDiv_f86c9_24 (by decide) ?_
      refine aw_lsub dJ9_floorDiv_f86c9_25 ?_
      try simp only [lcmpE, lcmpL, lcmpG, lcmpLE, lcmpGT, nrm_le, nrm_le64, Classical.not_not] at h1
      try simp only [lcmpE, lcmpL, lcmpG, lcmpLE, lcmpGT, nrm_le, nrm_le64, Classical.not_not] at h2
      exact aw_lret dJ9_floorDiv_f86c9_26 rfl (by first | (simp only [sp_fdiv, if_pos h1, if_neg h2] at hQ; exact hQ) | contradiction) (Nat.zero_le _) (Nat.zero_le _)
theorem lX3_shared {G : aw_G} {d : Nat} {Ω : aw_O} {I : aw_MI} {J : aw_MJ} {Q : Int64 → aw_O → aw_MI → aw_MJ → Prop} {a b : Int64}  : ∀ (z k : Nat) (x y : Int64), z + k = 100 → Q (sp_gcd z x y) Ω I J → AW G MX3_shared (aw_nx Ω) d 0 0 (aw_QL Q) Ω I J 0 0 [.long a, .null, .long b, .null, .long x, .null, .long y, .null, .int (nI k), .null, .null] 15 [] := by
  intro z
  induction z with
  | zero =>
    intro k x y h0 hQ
    refine aw_iload dX3_shared_15 rfl ?_
    refine aw_bipush (v := nI 100) dX3_shared_17 (by decide) ?_
    refine aw_geN (t := 50) dX3_shared_19 (by decide) (by omega) (by omega) (fun h1 => ?_) (fun h1 => absurd h1 (by omega))
    refine aw_lload dX3_shared_50 rfl ?_
    exact aw_lret dX3_shared_52 rfl hQ (Nat.zero_le _) (Nat.zero_le _)
  | succ z ih =>
    intro k x y h0 hQ
    refine aw_iload dX3_shared_15 rfl ?_
    refine aw_bipush (v := nI 100) dX3_shared_17 (by decide) ?_
    refine aw_geN (t := 50) dX3_shared_19 (by decide) (by omega) (by omega) (fun h1 => ?_) (fun h1 => ?_)
    · skip
      refine aw_lload dX3_shared_50 rfl ?_
      exact aw_lret dX3_shared_52 rfl (absurd h1 (by omega)) (Nat.zero_le _) (Nat.zero_le _)
    · skip
      refine aw_lload dX3_shared_22 rfl ?_
      refine aw_lconst (v := 0) dX3_shared_24 (by decide) ?_
      refine aw_lcmp dX3_shared_25 ?_
      refine aw_if_eq (t := 50) dX3_shared_26 (by decide) (fun h2 => ?_) (fun h2 => ?_)
      · skip
        refine aw_lload dX3_shared_50 rfl ?_
        exact aw_lret dX3_shared_52 rfl (by rw [sp_gcd, if_pos (lcmpE.mp h2)] at hQ; exact hQ) (Nat.zero_le _) (Nat.zero_le _)
      · skip
        refine aw_lload dX3_shared_29 rfl ?_
        refine aw_lload dX3_shared_31 rfl ?_
        refine aw_lrem dX3_shared_33 (fun q => h2 (lcmpE.mpr q)) ?_
        refine aw_lstore dX3_shared_34 (by decide) ?_
        refine aw_lv (lv2 := [.long _, .null, .long _, .null, .long _, .null, .long _, .null, .int _, .long _, .null]) rfl ?_
        refine aw_lload dX3_shared_36 rfl ?_
        refine aw_pc (pc2 := 38) rfl ?_
        refine aw_lstore dX3_shared_38 (by decide) ?_
        refine aw_lv (lv2 := [.long _, .null, .long _, .null, .long _, .null, .long _, .null, .int _, .long _, .null]) rfl ?_
        refine aw_lload dX3_shared_40 rfl ?_
        refine aw_lstore dX3_shared_42 (by decide) ?_
        refine aw_lv (lv2 := [.long _, .null, .long _, .null, .long _, .null, .long _, .null, .int _, .long _, .null]) rfl ?_
        refine aw_iincN dX3_shared_44 rfl (by decide) ?_
        refine aw_lv (lv2 := [.long _, .null, .long _, .null, .long _, .null, .long _, .null, .int _, .long _, .null]) rfl ?_
        refine aw_goto (t := 15) dX3_shared_47 (by decide) ?_
        refine aw_frg 9 ?_
        exact ih (k + 1) _ _ (by omega) (by rw [sp_gcd, if_neg (fun q => h2 (lcmpE.mpr q))] at hQ; exact hQ)
theorem tX3_shared {G : aw_G} {d : Nat} {Ω : aw_O} {I : aw_MI} {J : aw_MJ} {Q : Int64 → aw_O → aw_MI → aw_MJ → Prop} {a b : Int64} (hd : 1 ≤ d) (hQ : Q (sp_sh a b) Ω I J) : aw_Call G MX3_shared d 0 0 [.long a, .long b] Ω I J (aw_QL Q) := by
  refine aw_enter (by decide +kernel) rfl (Nat.le_of_ble_eq_true rfl) ?_
  show AW G MX3_shared (aw_nx Ω) d 0 0 (aw_QL Q) Ω I J 0 0 [.long a, .null, .long b, .null, .null, .null, .null, .null, .null, .null, .null] 0 []
  refine aw_lload_n dX3_shared_0 rfl ?_
  refine aw_csL (As := [_]) (d' := d - 1) dX3_shared_1 lkX3_13 (by omega) rfl rfl (Nat.le_of_ble_eq_true rfl) ⟨Nat.le_refl _, Nat.le_refl _⟩ (tJ9_abs_067f4 ?_)
  refine aw_lstore dX3_shared_4 (by decide) ?_
  refine aw_lv (lv2 := [.long _, .null, .long _, .null, .long _, .null, .null, .null, .null, .null, .null]) rfl ?_
  refine aw_lload_n dX3_shared_6 rfl ?_
  refine aw_csL (As := [_]) (d' := d - 1) dX3_shared_7 lkX3_13 (by omega) rfl rfl (Nat.le_of_ble_eq_true rfl) ⟨Nat.le_refl _, Nat.le_refl _⟩ (tJ9_abs_067f4 ?_)
  refine aw_pc (pc2 := 10) rfl ?_
  refine aw_lstore dX3_shared_10 (by decide) ?_
  refine aw_lv (lv2 := [.long _, .null, .long _, .null, .long _, .null, .long _, .null, .null, .null, .null]) rfl ?_
  refine aw_iconst (v := nI 0) dX3_shared_12 (by decide) ?_
  refine aw_istore dX3_shared_13 (by decide) ?_
  refine aw_lv (lv2 := [.long _, .null, .long _, .null, .long _, .null, .long _, .null, .int _, .null, .null]) rfl ?_
  exact lX3_shared 100 0 _ _ (by omega) hQ
theorem tX3_told {G : aw_G} {d : Nat} {Ω : aw_O} {I : aw_MI} {J : aw_MJ} {Q : Int64 → aw_O → aw_MI → aw_MJ → Prop} {a b : Int64} {pt : Int32} (hd : 2 ≤ d) (hQ : Q (sp_told a b pt) Ω I J) : aw_Call G MX3_told d 0 0 [.long a, .long b, .int pt] Ω I J (aw_QL Q) := by
  refine aw_enter (by decide +kernel) rfl (Nat.le_of_ble_eq_true rfl) ?_
  show AW G MX3_told (aw_nx Ω) d 0 0 (aw_QL Q) Ω I J 0 0 [.long a, .null, .long b, .null, .int pt, .null, .null] 0 []
  refine aw_lload_n dX3_told_0 rfl ?_
  refine aw_lload_n dX3_told_1 rfl ?_
  refine aw_csL (As := [_, _]) (d' := d - 1) dX3_told_2 lkX3_7 (by omega) rfl rfl (Nat.le_of_ble_eq_true rfl) ⟨Nat.le_refl _, Nat.le_refl _⟩ (tX3_shared (by omega) ?_)
  refine aw_lstore dX3_told_5 (by decide) ?_
  refine aw_lv (lv2 := [.long _, .null, .long _, .null, .int _, .long _, .null]) rfl ?_
  refine aw_lload dX3_told_7 rfl ?_
  refine aw_pc (pc2 := 9) rfl ?_
  refine aw_lconst (v := 0) dX3_told_9 (by decide) ?_
  refine aw_lcmp dX3_told_10 ?_
  refine aw_if_ne (t := 16) dX3_told_11 (by decide) (fun h1 => ?_) (fun h1 => ?_)
  · skip
    refine aw_iload dX3_told_16 rfl ?_
    refine aw_if_ne (t := 25) dX3_told_18 (by decide) (fun h2 => ?_) (fun h2 => ?_)
    · skip
      refine aw_lload_n dX3_told_25 rfl ?_
      refine aw_lload dX3_told_26 rfl ?_
      refine aw_ldiv dX3_told_28 (fun q => h1 (lcmpE.mpr q)) ?_
      try simp only [lcmpE, lcmpL, lcmpG, lcmpLE, lcmpGT, nrm_le, nrm_le64, Classical.not_not] at h1
      try simp only [lcmpE, lcmpL, lcmpG, lcmpLE, lcmpGT, nrm_le, nrm_le64, Classical.not_not] at h2
      exact aw_lret dX3_told_29 rfl (by first | (simp only [sp_told, if_neg h1, if_neg h2] at hQ; exact hQ) | contradiction) (Nat.zero_le _) (Nat.zero_le _)
    · skip
      refine aw_lload_n dX3_told_21 rfl ?_
      refine aw_goto (t := 26) dX3_told_22 (by decide) ?_
      refine aw_lload dX3_told_26 rfl ?_
      refine aw_ldiv dX3_told_28 (fun q => h1 (lcmpE.mpr q)) ?_
      try simp only [lcmpE, lcmpL, lcmpG, lcmpLE, lcmpGT, nrm_le, nrm_le64, Classical.not_not] at h1
      try simp only [lcmpE, lcmpL, lcmpG, lcmpLE, lcmpGT, nrm_le, nrm_le64, Classical.not_not] at h2
      exact aw_lret dX3_told_29 rfl (by first | (simp only [sp_told, if_neg h1, if_pos h2] at hQ; exact hQ) | contradiction) (Nat.zero_le _) (Nat.zero_le _)
  · skip
    refine aw_lconst (v := 0) dX3_told_14 (by decide) ?_
    try simp only [lcmpE, lcmpL, lcmpG, lcmpLE, lcmpGT, nrm_le, nrm_le64, Classical.not_not] at h1
    exact aw_lret dX3_told_15 rfl (by first | (simp only [sp_told, if_pos h1] at hQ; exact hQ) | contradiction) (Nat.zero_le _) (Nat.zero_le _)
theorem pos_ne {q : Int64} (h : ¬ lg_cmp q 0 ≤ 0) : ¬ q = 0 := by
  rw [lcmpLE, Classical.not_not] at h
  intro e
  subst e
  exact absurd h (by decide)
theorem lX3_isLess {G : aw_G} {d : Nat} {Ω : aw_O} {I : aw_MI} {J : aw_MJ} {Q : Int32 → aw_O → aw_MI → aw_MJ → Prop} {a b c e : Int64} (hd : 1 ≤ d)  : ∀ (z k : Nat) (p q r s : Int64), z + k = 100 → Q (sp_less z p q r s) Ω I J → AW G MX3_isLess (aw_nx Ω) d 0 0 (aw_QI Q) Ω I J 0 0 [.long a, .null, .long b, .null, .long c, .null, .long e, .null, .long p, .null, .long q, .null, .long r, .null, .long s, .null, .int (nI k), .null, .null, .null, .null, .null, .null, .null, .null] 17 [] := by
  intro z
  induction z with
  | zero =>
    intro k p q r s h0 hQ
    refine aw_iload dX3_isLess_17 rfl ?_
    refine aw_bipush (v := nI 100) dX3_isLess_19 (by decide) ?_
    refine aw_geN (t := 154) dX3_isLess_21 (by decide) (by omega) (by omega) (fun h1 => ?_) (fun h1 => absurd h1 (by omega))
    refine aw_iconst (v := nI 0) dX3_isLess_154 (by decide) ?_
    exact aw_zret dX3_isLess_155 rfl (by decide) hQ (Nat.zero_le _) (Nat.zero_le _)
  | succ z ih =>
    intro k p q r s h0 hQ
    refine aw_iload dX3_isLess_17 rfl ?_
    refine aw_bipush (v := nI 100) dX3_isLess_19 (by decide) ?_
    refine aw_geN (t := 154) dX3_isLess_21 (by decide) (by omega) (by omega) (fun h1 => ?_) (fun h1 => ?_)
    · skip
      refine aw_iconst (v := nI 0) dX3_isLess_154 (by decide) ?_
      exact aw_zret dX3_isLess_155 rfl (by decide) (absurd h1 (by omega)) (Nat.zero_le _) (Nat.zero_le _)
    · skip
      refine aw_lload dX3_isLess_24 rfl ?_
      refine aw_lconst (v := 0) dX3_isLess_26 (by decide) ?_
      refine aw_lcmp dX3_isLess_27 ?_
      refine aw_if_le (t := 154) dX3_isLess_28 (by decide) (fun h2 => ?_) (fun h2 => ?_)
      · skip
        refine aw_iconst (v := nI 0) dX3_isLess_154 (by decide) ?_
        try simp only [lcmpE, lcmpL, lcmpG, lcmpLE, lcmpGT, nrm_le, nrm_le64, Classical.not_not] at h2
        exact aw_zret dX3_isLess_155 rfl (by decide) (by first | (simp only [sp_less, if_neg h2] at hQ; exact hQ) | contradiction) (Nat.zero_le _) (Nat.zero_le _)
      · skip
        refine aw_lload dX3_isLess_31 rfl ?_
        refine aw_lconst (v := 0) dX3_isLess_33 (by decide) ?_
        refine aw_lcmp dX3_isLess_34 ?_
        refine aw_if_le (t := 154) dX3_isLess_35 (by decide) (fun h3 => ?_) (fun h3 => ?_)
        · skip
          refine aw_iconst (v := nI 0) dX3_isLess_154 (by decide) ?_
          try simp only [lcmpE, lcmpL, lcmpG, lcmpLE, lcmpGT, nrm_le, nrm_le64, Classical.not_not] at h2
          try simp only [lcmpE, lcmpL, lcmpG, lcmpLE, lcmpGT, nrm_le, nrm_le64, Classical.not_not] at h3
          exact aw_zret dX3_isLess_155 rfl (by decide) (by first | (simp only [sp_less, if_pos h2, if_neg h3] at hQ; exact hQ) | contradiction) (Nat.zero_le _) (Nat.zero_le _)
        · skip
          refine aw_lload dX3_isLess_38 rfl ?_
          refine aw_lload dX3_isLess_40 rfl ?_
          refine aw_csL (As := [_, _]) (d' := d - 1) dX3_isLess_42 lkX3_19 (by omega) rfl rfl (Nat.le_of_ble_eq_true rfl) ⟨Nat.le_refl _, Nat.le_refl _⟩ (tJ9_floorDiv_f86c9 (pos_ne h2) ?_)
          refine aw_lstore dX3_isLess_45 (by decide) ?_
          refine aw_lv (lv2 := [.long _, .null, .long _, .null, .long _, .null, .long _, .null, .long _, .null, .long _, .null, .long _, .null, .long _, .null, .int _, .long _, .null, .null, .null, .null, .null, .null, .null]) rfl ?_
          refine aw_lload dX3_isLess_47 rfl ?_
          refine aw_pc (pc2 := 49) rfl ?_
          refine aw_lload dX3_isLess_49 rfl ?_
          refine aw_csL (As := [_, _]) (d' := d - 1) dX3_isLess_51 lkX3_19 (by omega) rfl rfl (Nat.le_of_ble_eq_true rfl) ⟨Nat.le_refl _, Nat.le_refl _⟩ (tJ9_floorDiv_f86c9 (pos_ne h3) ?_)
          refine aw_lstore dX3_isLess_54 (by decide) ?_
          refine aw_lv (lv2 := [.long _, .null, .long _, .null, .long _, .null, .long _, .null, .long _, .null, .long _, .null, .long _, .null, .long _, .null, .int _, .long _, .null, .long _, .null, .null, .null, .null, .null]) rfl ?_
          refine aw_lload dX3_isLess_56 rfl ?_
          refine aw_lload dX3_isLess_58 rfl ?_
          refine aw_lcmp dX3_isLess_60 ?_
          refine aw_pc (pc2 := 61) rfl ?_
          refine aw_if_eq (t := 78) dX3_isLess_61 (by decide) (fun h4 => ?_) (fun h4 => ?_)
          · skip
            refine aw_lload dX3_isLess_78 rfl ?_
            refine aw_lload dX3_isLess_80 rfl ?_
            refine aw_lload dX3_isLess_82 rfl ?_
            refine aw_lmul dX3_isLess_84 ?_
            refine aw_lsub dX3_isLess_85 ?_
            refine aw_pc (pc2 := 86) rfl ?_
            refine aw_lstore dX3_isLess_86 (by decide) ?_
            refine aw_lv (lv2 := [.long _, .null, .long _, .null, .long _, .null, .long _, .null, .long _, .null, .long _, .null, .long _, .null, .long _, .null, .int _, .long _, .null, .long _, .null, .long _, .null, .null, .null]) rfl ?_
            refine aw_lload dX3_isLess_88 rfl ?_
            refine aw_lload dX3_isLess_90 rfl ?_
            refine aw_lload dX3_isLess_92 rfl ?_
            refine aw_lmul dX3_isLess_94 ?_
            refine aw_lsub dX3_isLess_95 ?_
            refine aw_pc (pc2 := 96) rfl ?_
            refine aw_lstore dX3_isLess_96 (by decide) ?_
            refine aw_lv (lv2 := [.long _, .null, .long _, .null, .long _, .null, .long _, .null, .long _, .null, .long _, .null, .long _, .null, .long _, .null, .int _, .long _, .null, .long _, .null, .long _, .null, .long _, .null]) rfl ?_
            refine aw_lload dX3_isLess_98 rfl ?_
            refine aw_lconst (v := 0) dX3_isLess_100 (by decide) ?_
            refine aw_lcmp dX3_isLess_101 ?_
            refine aw_if_eq (t := 112) dX3_isLess_102 (by decide) (fun h5 => ?_) (fun h5 => ?_)
            · skip
              refine aw_lload dX3_isLess_112 rfl ?_
              refine aw_lconst (v := 0) dX3_isLess_114 (by decide) ?_
              refine aw_lcmp dX3_isLess_115 ?_
              refine aw_if_ne (t := 130) dX3_isLess_116 (by decide) (fun h6 => ?_) (fun h6 => ?_)
              · skip
                refine aw_iconst (v := nI 0) dX3_isLess_130 (by decide) ?_
                try simp only [lcmpE, lcmpL, lcmpG, lcmpLE, lcmpGT, nrm_le, nrm_le64, Classical.not_not] at h2
                try simp only [lcmpE, lcmpL, lcmpG, lcmpLE, lcmpGT, nrm_le, nrm_le64, Classical.not_not] at h3
                try simp only [lcmpE, lcmpL, lcmpG, lcmpLE, lcmpGT, nrm_le, nrm_le64, Classical.not_not] at h4
                try simp only [lcmpE, lcmpL, lcmpG, lcmpLE, lcmpGT, nrm_le, nrm_le64, Classical.not_not] at h5
                try simp only [lcmpE, lcmpL, lcmpG, lcmpLE, lcmpGT, nrm_le, nrm_le64, Classical.not_not] at h6
                exact aw_zret dX3_isLess_131 rfl (by decide) (by first | (simp only [sp_less, if_pos h2, if_pos h3, if_pos h4, if_pos h5, if_neg h6] at hQ; exact hQ) | contradiction) (Nat.zero_le _) (Nat.zero_le _)
              · skip
                refine aw_lload dX3_isLess_119 rfl ?_
                refine aw_lconst (v := 0) dX3_isLess_121 (by decide) ?_
                refine aw_lcmp dX3_isLess_122 ?_
                refine aw_if_eq (t := 130) dX3_isLess_123 (by decide) (fun h7 => ?_) (fun h7 => ?_)
                · skip
                  refine aw_iconst (v := nI 0) dX3_isLess_130 (by decide) ?_
                  try simp only [lcmpE, lcmpL, lcmpG, lcmpLE, lcmpGT, nrm_le, nrm_le64, Classical.not_not] at h2
                  try simp only [lcmpE, lcmpL, lcmpG, lcmpLE, lcmpGT, nrm_le, nrm_le64, Classical.not_not] at h3
                  try simp only [lcmpE, lcmpL, lcmpG, lcmpLE, lcmpGT, nrm_le, nrm_le64, Classical.not_not] at h4
                  try simp only [lcmpE, lcmpL, lcmpG, lcmpLE, lcmpGT, nrm_le, nrm_le64, Classical.not_not] at h5
                  try simp only [lcmpE, lcmpL, lcmpG, lcmpLE, lcmpGT, nrm_le, nrm_le64, Classical.not_not] at h6
                  try simp only [lcmpE, lcmpL, lcmpG, lcmpLE, lcmpGT, nrm_le, nrm_le64, Classical.not_not] at h7
                  exact aw_zret dX3_isLess_131 rfl (by decide) (by first | (simp only [sp_less, if_pos h2, if_pos h3, if_pos h4, if_pos h5, if_pos h6, if_pos h7] at hQ; exact hQ) | contradiction) (Nat.zero_le _) (Nat.zero_le _)
                · skip
                  refine aw_iconst (v := nI 1) dX3_isLess_126 (by decide) ?_
                  refine aw_goto (t := 131) dX3_isLess_127 (by decide) ?_
                  try simp only [lcmpE, lcmpL, lcmpG, lcmpLE, lcmpGT, nrm_le, nrm_le64, Classical.not_not] at h2
                  try simp only [lcmpE, lcmpL, lcmpG, lcmpLE, lcmpGT, nrm_le, nrm_le64, Classical.not_not] at h3
                  try simp only [lcmpE, lcmpL, lcmpG, lcmpLE, lcmpGT, nrm_le, nrm_le64, Classical.not_not] at h4
                  try simp only [lcmpE, lcmpL, lcmpG, lcmpLE, lcmpGT, nrm_le, nrm_le64, Classical.not_not] at h5
                  try simp only [lcmpE, lcmpL, lcmpG, lcmpLE, lcmpGT, nrm_le, nrm_le64, Classical.not_not] at h6
                  try simp only [lcmpE, lcmpL, lcmpG, lcmpLE, lcmpGT, nrm_le, nrm_le64, Classical.not_not] at h7
                  exact aw_zret dX3_isLess_131 rfl (by decide) (by first | (simp only [sp_less, if_pos h2, if_pos h3, if_pos h4, if_pos h5, if_pos h6, if_neg h7] at hQ; exact hQ) | contradiction) (Nat.zero_le _) (Nat.zero_le _)
            · skip
              refine aw_lload dX3_isLess_105 rfl ?_
              refine aw_lconst (v := 0) dX3_isLess_107 (by decide) ?_
              refine aw_lcmp dX3_isLess_108 ?_
              refine aw_if_ne (t := 132) dX3_isLess_109 (by decide) (fun h8 => ?_) (fun h8 => ?_)
              · skip
                refine aw_lload dX3_isLess_132 rfl ?_
                refine aw_lstore dX3_isLess_134 (by decide) ?_
                refine aw_lv (lv2 := [.long _, .null, .long _, .null, .long _, .null, .long _, .null, .long _, .null, .long _, .null, .long _, .null, .long _, .null, .int _, .long _, .null, .long _, .null, .long _, .null, .long _, .null]) rfl ?_
                refine aw_lload dX3_isLess_136 rfl ?_
                refine aw_lstore dX3_isLess_138 (by decide) ?_
                refine aw_lv (lv2 := [.long _, .null, .long _, .null, .long _, .null, .long _, .null, .long _, .null, .long _, .null, .long _, .null, .long _, .null, .int _, .long _, .null, .long _, .null, .long _, .null, .long _, .null]) rfl ?_
                refine aw_lload dX3_isLess_140 rfl ?_
                refine aw_pc (pc2 := 142) rfl ?_
                refine aw_lstore dX3_isLess_142 (by decide) ?_
                refine aw_lv (lv2 := [.long _, .null, .long _, .null, .long _, .null, .long _, .null, .long _, .null, .long _, .null, .long _, .null, .long _, .null, .int _, .long _, .null, .long _, .null, .long _, .null, .long _, .null]) rfl ?_
                refine aw_lload dX3_isLess_144 rfl ?_
                refine aw_lstore dX3_isLess_146 (by decide) ?_
                refine aw_lv (lv2 := [.long _, .null, .long _, .null, .long _, .null, .long _, .null, .long _, .null, .long _, .null, .long _, .null, .long _, .null, .int _, .long _, .null, .long _, .null, .long _, .null, .long _, .null]) rfl ?_
                refine aw_iincN dX3_isLess_148 rfl (by decide) ?_
                refine aw_lv (lv2 := [.long _, .null, .long _, .null, .long _, .null, .long _, .null, .long _, .null, .long _, .null, .long _, .null, .long _, .null, .int _, .long _, .null, .long _, .null, .long _, .null, .long _, .null]) rfl ?_
                refine aw_goto (t := 17) dX3_isLess_151 (by decide) ?_
                refine aw_frg 17 ?_
                refine aw_frg 19 ?_
                refine aw_frg 21 ?_
                refine aw_frg 23 ?_
                try simp only [lcmpE, lcmpL, lcmpG, lcmpLE, lcmpGT, nrm_le, nrm_le64, Classical.not_not] at h2
                try simp only [lcmpE, lcmpL, lcmpG, lcmpLE, lcmpGT, nrm_le, nrm_le64, Classical.not_not] at h3
                try simp only [lcmpE, lcmpL, lcmpG, lcmpLE, lcmpGT, nrm_le, nrm_le64, Classical.not_not] at h4
                try simp only [lcmpE, lcmpL, lcmpG, lcmpLE, lcmpGT, nrm_le, nrm_le64, Classical.not_not] at h5
                try simp only [lcmpE, lcmpL, lcmpG, lcmpLE, lcmpGT, nrm_le, nrm_le64, Classical.not_not] at h8
                exact ih (k + 1) _ _ _ _ (by omega) (by simp only [sp_less, if_pos h2, if_pos h3, if_pos h4, if_neg h5, if_neg h8] at hQ; exact hQ)
              · skip
                refine aw_lload dX3_isLess_112 rfl ?_
                refine aw_lconst (v := 0) dX3_isLess_114 (by decide) ?_
                refine aw_lcmp dX3_isLess_115 ?_
                refine aw_if_ne (t := 130) dX3_isLess_116 (by decide) (fun h9 => ?_) (fun h9 => ?_)
                · skip
                  refine aw_iconst (v := nI 0) dX3_isLess_130 (by decide) ?_
                  try simp only [lcmpE, lcmpL, lcmpG, lcmpLE, lcmpGT, nrm_le, nrm_le64, Classical.not_not] at h2
                  try simp only [lcmpE, lcmpL, lcmpG, lcmpLE, lcmpGT, nrm_le, nrm_le64, Classical.not_not] at h3
                  try simp only [lcmpE, lcmpL, lcmpG, lcmpLE, lcmpGT, nrm_le, nrm_le64, Classical.not_not] at h4
                  try simp only [lcmpE, lcmpL, lcmpG, lcmpLE, lcmpGT, nrm_le, nrm_le64, Classical.not_not] at h5
                  try simp only [lcmpE, lcmpL, lcmpG, lcmpLE, lcmpGT, nrm_le, nrm_le64, Classical.not_not] at h8
                  try simp only [lcmpE, lcmpL, lcmpG, lcmpLE, lcmpGT, nrm_le, nrm_le64, Classical.not_not] at h9
                  exact aw_zret dX3_isLess_131 rfl (by decide) (by first | (simp only [sp_less, if_pos h2, if_pos h3, if_pos h4, if_neg h5, if_pos h8, if_neg h9] at hQ; exact hQ) | contradiction) (Nat.zero_le _) (Nat.zero_le _)
                · skip
                  refine aw_lload dX3_isLess_119 rfl ?_
                  refine aw_lconst (v := 0) dX3_isLess_121 (by decide) ?_
                  refine aw_lcmp dX3_isLess_122 ?_
                  refine aw_if_eq (t := 130) dX3_isLess_123 (by decide) (fun h10 => ?_) (fun h10 => ?_)
                  · skip
                    refine aw_iconst (v := nI 0) dX3_isLess_130 (by decide) ?_
                    try simp only [lcmpE, lcmpL, lcmpG, lcmpLE, lcmpGT, nrm_le, nrm_le64, Classical.not_not] at h2
                    try simp only [lcmpE, lcmpL, lcmpG, lcmpLE, lcmpGT, nrm_le, nrm_le64, Classical.not_not] at h3
                    try simp only [lcmpE, lcmpL, lcmpG, lcmpLE, lcmpGT, nrm_le, nrm_le64, Classical.not_not] at h4
                    try simp only [lcmpE, lcmpL, lcmpG, lcmpLE, lcmpGT, nrm_le, nrm_le64, Classical.not_not] at h5
                    try simp only [lcmpE, lcmpL, lcmpG, lcmpLE, lcmpGT, nrm_le, nrm_le64, Classical.not_not] at h8
                    try simp only [lcmpE, lcmpL, lcmpG, lcmpLE, lcmpGT, nrm_le, nrm_le64, Classical.not_not] at h9
                    try simp only [lcmpE, lcmpL, lcmpG, lcmpLE, lcmpGT, nrm_le, nrm_le64, Classical.not_not] at h10
                    exact aw_zret dX3_isLess_131 rfl (by decide) (by first | (simp only [sp_less, if_pos h2, if_pos h3, if_pos h4, if_neg h5, if_pos h8, if_pos h9, if_pos h10] at hQ; exact hQ) | contradiction) (Nat.zero_le _) (Nat.zero_le _)
                  · skip
                    refine aw_iconst (v := nI 1) dX3_isLess_126 (by decide) ?_
                    refine aw_goto (t := 131) dX3_isLess_127 (by decide) ?_
                    try simp only [lcmpE, lcmpL, lcmpG, lcmpLE, lcmpGT, nrm_le, nrm_le64, Classical.not_not] at h2
                    try simp only [lcmpE, lcmpL, lcmpG, lcmpLE, lcmpGT, nrm_le, nrm_le64, Classical.not_not] at h3
                    try simp only [lcmpE, lcmpL, lcmpG, lcmpLE, lcmpGT, nrm_le, nrm_le64, Classical.not_not] at h4
                    try simp only [lcmpE, lcmpL, lcmpG, lcmpLE, lcmpGT, nrm_le, nrm_le64, Classical.not_not] at h5
                    try simp only [lcmpE, lcmpL, lcmpG, lcmpLE, lcmpGT, nrm_le, nrm_le64, Classical.not_not] at h8
                    try simp only [lcmpE, lcmpL, lcmpG, lcmpLE, lcmpGT, nrm_le, nrm_le64, Classical.not_not] at h9
                    try simp only [lcmpE, lcmpL, lcmpG, lcmpLE, lcmpGT, nrm_le, nrm_le64, Classical.not_not] at h10
                    exact aw_zret dX3_isLess_131 rfl (by decide) (by first | (simp only [sp_less, if_pos h2, if_pos h3, if_pos h4, if_neg h5, if_pos h8, if_pos h9, if_neg h10] at hQ; exact hQ) | contradiction) (Nat.zero_le _) (Nat.zero_le _)
          · skip
            refine aw_lload dX3_isLess_64 rfl ?_
            refine aw_lload dX3_isLess_66 rfl ?_
            refine aw_lcmp dX3_isLess_68 ?_
            refine aw_if_ge (t := 76) dX3_isLess_69 (by decide) (fun h11 => ?_) (fun h11 => ?_)
            · skip
              refine aw_iconst (v := nI 0) dX3_isLess_76 (by decide) ?_
              try simp only [lcmpE, lcmpL, lcmpG, lcmpLE, lcmpGT, nrm_le, nrm_le64, Classical.not_not] at h2
              try simp only [lcmpE, lcmpL, lcmpG, lcmpLE, lcmpGT, nrm_le, nrm_le64, Classical.not_not] at h3
              try simp only [lcmpE, lcmpL, lcmpG, lcmpLE, lcmpGT, nrm_le, nrm_le64, Classical.not_not] at h4
              try simp only [lcmpE, lcmpL, lcmpG, lcmpLE, lcmpGT, nrm_le, nrm_le64, Classical.not_not] at h11
              exact aw_zret dX3_isLess_77 rfl (by decide) (by first | (simp only [sp_less, if_pos h2, if_pos h3, if_neg h4, if_neg h11] at hQ; exact hQ) | contradiction) (Nat.zero_le _) (Nat.zero_le _)
            · skip
              refine aw_iconst (v := nI 1) dX3_isLess_72 (by decide) ?_
              refine aw_goto (t := 77) dX3_isLess_73 (by decide) ?_
              try simp only [lcmpE, lcmpL, lcmpG, lcmpLE, lcmpGT, nrm_le, nrm_le64, Classical.not_not] at h2
              try simp only [lcmpE, lcmpL, lcmpG, lcmpLE, lcmpGT, nrm_le, nrm_le64, Classical.not_not] at h3
              try simp only [lcmpE, lcmpL, lcmpG, lcmpLE, lcmpGT, nrm_le, nrm_le64, Classical.not_not] at h4
              try simp only [lcmpE, lcmpL, lcmpG, lcmpLE, lcmpGT, nrm_le, nrm_le64, Classical.not_not] at h11
              exact aw_zret dX3_isLess_77 rfl (by decide) (by first | (simp only [sp_less, if_pos h2, if_pos h3, if_neg h4, if_pos h11] at hQ; exact hQ) | contradiction) (Nat.zero_le _) (Nat.zero_le _)
theorem tX3_isLess {G : aw_G} {d : Nat} {Ω : aw_O} {I : aw_MI} {J : aw_MJ} {Q : Int32 → aw_O → aw_MI → aw_MJ → Prop} {a b c e : Int64} (hd : 1 ≤ d) (hQ : Q (sp_less 100 a b c e) Ω I J) : aw_Call G MX3_isLess d 0 0 [.long a, .long b, .long c, .long e] Ω I J (aw_QI Q) := by
  refine aw_enter (by decide +kernel) rfl (Nat.le_of_ble_eq_true rfl) ?_
  show AW G MX3_isLess (aw_nx Ω) d 0 0 (aw_QI Q) Ω I J 0 0 [.long a, .null, .long b, .null, .long c, .null, .long e, .null, .null, .null, .null, .null, .null, .null, .null, .null, .null, .null, .null, .null, .null, .null, .null, .null, .null] 0 []
  refine aw_lload_n dX3_isLess_0 rfl ?_
  refine aw_lstore dX3_isLess_1 (by decide) ?_
  refine aw_lv (lv2 := [.long _, .null, .long _, .null, .long _, .null, .long _, .null, .long _, .null, .null, .null, .null, .null, .null, .null, .null, .null, .null, .null, .null, .null, .null, .null, .null]) rfl ?_
  refine aw_lload_n dX3_isLess_3 rfl ?_
  refine aw_lstore dX3_isLess_4 (by decide) ?_
  refine aw_lv (lv2 := [.long _, .null, .long _, .null, .long _, .null, .long _, .null, .long _, .null, .long _, .null, .null, .null, .null, .null, .null, .null, .null, .null, .null, .null, .null, .null, .null]) rfl ?_
  refine aw_lload dX3_isLess_6 rfl ?_
  refine aw_pc (pc2 := 8) rfl ?_
  refine aw_lstore dX3_isLess_8 (by decide) ?_
  refine aw_lv (lv2 := [.long _, .null, .long _, .null, .long _, .null, .long _, .null, .long _, .null, .long _, .null, .long _, .null, .null, .null, .null, .null, .null, .null, .null, .null, .null, .null, .null]) rfl ?_
  refine aw_lload dX3_isLess_10 rfl ?_
  refine aw_lstore dX3_isLess_12 (by decide) ?_
  refine aw_lv (lv2 := [.long _, .null, .long _, .null, .long _, .null, .long _, .null, .long _, .null, .long _, .null, .long _, .null, .long _, .null, .null, .null, .null, .null, .null, .null, .null, .null, .null]) rfl ?_
  refine aw_iconst (v := nI 0) dX3_isLess_14 (by decide) ?_
  refine aw_istore dX3_isLess_15 (by decide) ?_
  refine aw_lv (lv2 := [.long _, .null, .long _, .null, .long _, .null, .long _, .null, .long _, .null, .long _, .null, .long _, .null, .long _, .null, .int _, .null, .null, .null, .null, .null, .null, .null, .null]) rfl ?_
  exact lX3_isLess hd 100 0 _ _ _ _ (by omega) hQ
theorem tX0_write {G : aw_G} {d : Nat} {Ω : aw_O} {I : aw_MI} {J : aw_MJ} {Q : aw_O → aw_MI → aw_MJ → Prop} {b : Nat} {v : Int32} (hK : aw_book Ω b) (hQ : Q Ω (aw_up I b 0 (I b 0 + nI 1)) (aw_up (aw_up J b 1 (J b 1 * 31 + v.toInt64)) b 4 (J b 4 <<< ((nI 8).toInt64 &&& 63) ||| (v &&& nI 255).toInt64))) : aw_Call G MX0_write d 0 0 [.ref (aw_ad G b), .int v] Ω I J (aw_QV Q) := by
  refine aw_enter (by decide +kernel) rfl (Nat.le_of_ble_eq_true rfl) ?_
  show AW G MX0_write (aw_nx Ω) d 0 0 (aw_QV Q) Ω I J 0 0 [.ref (aw_ad G b), .int v] 0 []
  refine aw_aload_n dX0_write_0 rfl ?_
  refine aw_dup dX0_write_1 rfl ?_
  refine aw_getI dX0_write_2 flX0_7 hK.o ?_
  refine aw_iconst (v := nI 1) dX0_write_5 (by decide) ?_
  refine aw_iadd dX0_write_6 ?_
  refine aw_pc (pc2 := 7) rfl ?_
  refine aw_putI dX0_write_7 fwX0_7 hK.o rfl ?_
  refine aw_aload_n dX0_write_10 rfl ?_
  refine aw_aload_n dX0_write_11 rfl ?_
  refine aw_getJ dX0_write_12 flX0_13 hK.o ?_
  refine aw_ldc2 (v := 31) dX0_write_15 (aw_pl 704 (by decide +kernel) rfl) ?_
  refine aw_lmul dX0_write_18 ?_
  refine aw_pc (pc2 := 19) rfl ?_
  refine aw_iload_n dX0_write_19 rfl ?_
  refine aw_i2l dX0_write_20 ?_
  refine aw_ladd dX0_write_21 ?_
  refine aw_putJ dX0_write_22 fwX0_13 hK.o rfl ?_
  refine aw_aload_n dX0_write_25 rfl ?_
  refine aw_aload_n dX0_write_26 rfl ?_
  refine aw_pc (pc2 := 27) rfl ?_
  refine aw_getJ dX0_write_27 flX0_19 hK.o ?_
  refine aw_toL (aw_up_ne J _ (Or.inr (by decide))) ?_
  refine aw_bipush (v := nI 8) dX0_write_30 (by decide) ?_
  refine aw_lshl dX0_write_32 ?_
  refine aw_iload_n dX0_write_33 rfl ?_
  refine aw_sipush (v := nI 255) dX0_write_34 (by decide) ?_
  refine aw_iand dX0_write_37 ?_
  refine aw_pc (pc2 := 38) rfl ?_
  refine aw_i2l dX0_write_38 ?_
  refine aw_lor dX0_write_39 ?_
  refine aw_putJ dX0_write_40 fwX0_19 hK.o rfl ?_
  exact aw_vret dX0_write_43 rfl (hQ) (Nat.zero_le _) (Nat.zero_le _)
theorem tX0_lastBut {G : aw_G} {d : Nat} {Ω : aw_O} {I : aw_MI} {J : aw_MJ} {Q : Int32 → aw_O → aw_MI → aw_MJ → Prop} {b k : Nat} (hK : aw_book Ω b) (hQ : Q ((J b 4 >>> ((nI (8 * k)).toInt64 &&& 63)).toInt32.toInt8.toInt32) Ω I J) : aw_Call G MX0_lastBut d 0 0 [.ref (aw_ad G b), .int (nI k)] Ω I J (aw_QI Q) := by
  refine aw_enter (by decide +kernel) rfl (Nat.le_of_ble_eq_true rfl) ?_
  show AW G MX0_lastBut (aw_nx Ω) d 0 0 (aw_QI Q) Ω I J 0 0 [.ref (aw_ad G b), .int (nI k)] 0 []
  refine aw_aload_n dX0_lastBut_0 rfl ?_
  refine aw_getJ dX0_lastBut_1 flX0_19 hK.o ?_
  refine aw_bipush (v := nI 8) dX0_lastBut_4 (by decide) ?_
  refine aw_iload_n dX0_lastBut_6 rfl ?_
  refine aw_imulN dX0_lastBut_7 ?_
  refine aw_pc (pc2 := 8) rfl ?_
  refine aw_lshr dX0_lastBut_8 ?_
  refine aw_l2i dX0_lastBut_9 ?_
  refine aw_i2b dX0_lastBut_10 ?_
  exact aw_iret dX0_lastBut_11 rfl (hQ) (Nat.zero_le _) (Nat.zero_le _)
theorem tX0_offer {G : aw_G} {d : Nat} {Ω : aw_O} {I : aw_MI} {J : aw_MJ} {Q : aw_O → aw_MI → aw_MJ → Prop} {b : Nat} {a c : Int64} (hK : aw_book Ω b) (hd : 2 ≤ d) (hQ : Q Ω I (if J b 3 = 0 then aw_up (aw_up J b 2 a) b 3 c else if sp_less 100 a c (J b 2) (J b 3) = 0 then J else aw_up (aw_up J b 2 a) b 3 c)) : aw_Call G MX0_offer d 0 0 [.ref (aw_ad G b), .long a, .long c] Ω I J (aw_QV Q) := by
  refine aw_enter (by decide +kernel) rfl (Nat.le_of_ble_eq_true rfl) ?_
  show AW G MX0_offer (aw_nx Ω) d 0 0 (aw_QV Q) Ω I J 0 0 [.ref (aw_ad G b), .long a, .null, .long c, .null] 0 []
  refine aw_aload_n dX0_offer_0 rfl ?_
  refine aw_getJ dX0_offer_1 flX0_22 hK.o ?_
  refine aw_lconst (v := 0) dX0_offer_4 (by decide) ?_
  refine aw_lcmp dX0_offer_5 ?_
  refine aw_if_eq (t := 25) dX0_offer_6 (by decide) (fun h1 => ?_) (fun h1 => ?_)
  · skip
    refine aw_aload_n dX0_offer_25 rfl ?_
    refine aw_lload_n dX0_offer_26 rfl ?_
    refine aw_putJ dX0_offer_27 fwX0_25 hK.o rfl ?_
    refine aw_aload_n dX0_offer_30 rfl ?_
    refine aw_lload_n dX0_offer_31 rfl ?_
    refine aw_pc (pc2 := 32) rfl ?_
    refine aw_putJ dX0_offer_32 fwX0_22 hK.o rfl ?_
    try simp only [lcmpE, lcmpL, lcmpG, lcmpLE, lcmpGT, nrm_le, nrm_le64, Classical.not_not] at h1
    exact aw_vret dX0_offer_35 rfl (by first | (simp only [ne_eq, if_pos h1] at hQ; exact hQ) | contradiction) (Nat.zero_le _) (Nat.zero_le _)
  · skip
    refine aw_lload_n dX0_offer_9 rfl ?_
    refine aw_lload_n dX0_offer_10 rfl ?_
    refine aw_aload_n dX0_offer_11 rfl ?_
    refine aw_getJ dX0_offer_12 flX0_25 hK.o ?_
    refine aw_aload_n dX0_offer_15 rfl ?_
    refine aw_pc (pc2 := 16) rfl ?_
    refine aw_getJ dX0_offer_16 flX0_22 hK.o ?_
    refine aw_csI (As := [_, _, _, _]) (d' := d - 1) dX0_offer_19 lkX0_28 (by omega) rfl rfl (Nat.le_of_ble_eq_true rfl) ⟨Nat.le_refl _, Nat.le_refl _⟩ (tX3_isLess (by omega) ?_)
    refine aw_if_eq (t := 35) dX0_offer_22 (by decide) (fun h2 => ?_) (fun h2 => ?_)
    · skip
      try simp only [lcmpE, lcmpL, lcmpG, lcmpLE, lcmpGT, nrm_le, nrm_le64, Classical.not_not] at h1
      try simp only [lcmpE, lcmpL, lcmpG, lcmpLE, lcmpGT, nrm_le, nrm_le64, Classical.not_not] at h2
      exact aw_vret dX0_offer_35 rfl (by first | (simp only [ne_eq, if_neg h1, if_pos h2] at hQ; exact hQ) | contradiction) (Nat.zero_le _) (Nat.zero_le _)
    · skip
      refine aw_aload_n dX0_offer_25 rfl ?_
      refine aw_lload_n dX0_offer_26 rfl ?_
      refine aw_putJ dX0_offer_27 fwX0_25 hK.o rfl ?_
      refine aw_aload_n dX0_offer_30 rfl ?_
      refine aw_lload_n dX0_offer_31 rfl ?_
      refine aw_pc (pc2 := 32) rfl ?_
      refine aw_putJ dX0_offer_32 fwX0_22 hK.o rfl ?_
      try simp only [lcmpE, lcmpL, lcmpG, lcmpLE, lcmpGT, nrm_le, nrm_le64, Classical.not_not] at h1
      try simp only [lcmpE, lcmpL, lcmpG, lcmpLE, lcmpGT, nrm_le, nrm_le64, Classical.not_not] at h2
      exact aw_vret dX0_offer_35 rfl (by first | (simp only [ne_eq, if_neg h1, if_neg h2] at hQ; exact hQ) | contradiction) (Nat.zero_le _) (Nat.zero_le _)
theorem tX5_at {G : aw_G} {d : Nat} {Ω : aw_O} {I : aw_MI} {J : aw_MJ} {Q : Int64 → aw_O → aw_MI → aw_MJ → Prop} {b s i : Nat} (hS : aw_sheets Ω b) (hs : s < 4) (hi : i < 12) (hQ : Q (J (b + 3) (s * 12 + i)) Ω I J) : aw_Call G MX5_at d 0 0 [.ref (aw_ad G b), .int (nI s), .int (nI i)] Ω I J (aw_QL Q) := by
  refine aw_enter (by decide +kernel) rfl (Nat.le_of_ble_eq_true rfl) ?_
  show AW G MX5_at (aw_nx Ω) d 0 0 (aw_QL Q) Ω I J 0 0 [.ref (aw_ad G b), .int (nI s), .int (nI i)] 0 []
  refine aw_aload_n dX5_at_0 rfl ?_
  refine aw_getR dX5_at_1 flX5_18 hS.o hS.p2 ?_
  refine aw_iload_n dX5_at_4 rfl ?_
  refine aw_bipush (v := nI 12) dX5_at_5 (by decide) ?_
  refine aw_imulN dX5_at_7 ?_
  refine aw_pc (pc2 := 8) rfl ?_
  refine aw_iload_n dX5_at_8 rfl ?_
  refine aw_iaddN dX5_at_9 ?_
  refine aw_lald dX5_at_10 hS.s2 rfl (by omega) ?_
  exact aw_lret dX5_at_11 rfl (hQ) (Nat.zero_le _) (Nat.zero_le _)
theorem tX5_put {G : aw_G} {d : Nat} {Ω : aw_O} {I : aw_MI} {J : aw_MJ} {Q : aw_O → aw_MI → aw_MJ → Prop} {b s i : Nat} {v : Int64} (hS : aw_sheets Ω b) (hs : s < 4) (hi : i < 12) (hQ : Q Ω I (aw_up J (b + 3) (s * 12 + i) v)) : aw_Call G MX5_put d 0 0 [.ref (aw_ad G b), .int (nI s), .int (nI i), .long v] Ω I J (aw_QV Q) := by
  refine aw_enter (by decide +kernel) rfl (Nat.le_of_ble_eq_true rfl) ?_
  show AW G MX5_put (aw_nx Ω) d 0 0 (aw_QV Q) Ω I J 0 0 [.ref (aw_ad G b), .int (nI s), .int (nI i), .long v, .null] 0 []
  refine aw_aload_n dX5_put_0 rfl ?_
  refine aw_getR dX5_put_1 flX5_18 hS.o hS.p2 ?_
  refine aw_iload_n dX5_put_4 rfl ?_
  refine aw_bipush (v := nI 12) dX5_put_5 (by decide) ?_
  refine aw_imulN dX5_put_7 ?_
  refine aw_pc (pc2 := 8) rfl ?_
  refine aw_iload_n dX5_put_8 rfl ?_
  refine aw_iaddN dX5_put_9 ?_
  refine aw_lload_n dX5_put_10 rfl ?_
  refine aw_last dX5_put_11 hS.s2 rfl (by omega) rfl ?_
  exact aw_vret dX5_put_12 rfl (hQ) (Nat.zero_le _) (Nat.zero_le _)
theorem lX5_begin {G : aw_G} {d : Nat} {Ω : aw_O} {I : aw_MI} {J : aw_MJ} {Q : aw_O → aw_MI → aw_MJ → Prop} {b s : Nat} {u v : Int32} (hS : aw_sheets Ω b) (hs : s < 4) (hd : 1 ≤ d) (hQ : Q Ω I (aw_fr J (b + 3) (s * 12) 12 0)) : ∀ (z i : Nat), i ≤ 12 → 12 - i < z → AW G MX5_begin (aw_nx Ω) d 0 0 (aw_QV Q) Ω I (aw_fr J (b + 3) (s * 12) i 0) 0 0 [.ref (aw_ad G b), .int (nI s), .int u, .int v, .int (nI i)] 17 [] := by
  intro z
  induction z with
  | zero =>
    intro i h0 hz
    exact absurd hz (by omega)
  | succ z ih =>
    intro i h0 hz
    refine aw_iload dX5_begin_17 rfl ?_
    refine aw_bipush (v := nI 12) dX5_begin_19 (by decide) ?_
    refine aw_geN (t := 38) dX5_begin_21 (by decide) (by omega) (by omega) (fun h1 => ?_) (fun h1 => ?_)
    · skip
      have e1 : i = 12 := by omega
      subst e1
      exact aw_vret dX5_begin_38 rfl (hQ) (Nat.zero_le _) (Nat.zero_le _)
    · skip
      refine aw_aload_n dX5_begin_24 rfl ?_
      refine aw_iload_n dX5_begin_25 rfl ?_
      refine aw_iload dX5_begin_26 rfl ?_
      refine aw_lconst (v := 0) dX5_begin_28 (by decide) ?_
      refine aw_cvV (As := [_, _, _]) (d' := d - 1) dX5_begin_29 lkX5_28 hS.o (by omega) rfl rfl (Nat.le_of_ble_eq_true rfl) ⟨Nat.le_refl _, Nat.le_refl _⟩ (tX5_put hS hs (by omega) ?_)
      refine aw_pc (pc2 := 32) rfl ?_
      refine aw_iincN dX5_begin_32 rfl (by decide) ?_
      refine aw_lv (lv2 := [.ref _, .int _, .int _, .int _, .int _]) rfl ?_
      refine aw_goto (t := 17) dX5_begin_35 (by decide) ?_
      rw [aw_fr_s]
      exact ih (i + 1) (by omega) (by omega)
theorem tX5_begin {G : aw_G} {d : Nat} {Ω : aw_O} {I : aw_MI} {J : aw_MJ} {Q : aw_O → aw_MI → aw_MJ → Prop} {b s : Nat} {u v : Int32} (hS : aw_sheets Ω b) (hs : s < 4) (hd : 1 ≤ d) (hQ : Q Ω (aw_up (aw_up I (b + 1) s u) (b + 2) s v) (aw_fr J (b + 3) (s * 12) 12 0)) : aw_Call G MX5_begin d 0 0 [.ref (aw_ad G b), .int (nI s), .int u, .int v] Ω I J (aw_QV Q) := by
  refine aw_enter (by decide +kernel) rfl (Nat.le_of_ble_eq_true rfl) ?_
  show AW G MX5_begin (aw_nx Ω) d 0 0 (aw_QV Q) Ω I J 0 0 [.ref (aw_ad G b), .int (nI s), .int u, .int v, .null] 0 []
  refine aw_aload_n dX5_begin_0 rfl ?_
  refine aw_getR dX5_begin_1 flX5_9 hS.o hS.p0 ?_
  refine aw_iload_n dX5_begin_4 rfl ?_
  refine aw_iload_n dX5_begin_5 rfl ?_
  refine aw_iast dX5_begin_6 hS.s0 rfl (by omega) rfl ?_
  refine aw_pc (pc2 := 7) rfl ?_
  refine aw_aload_n dX5_begin_7 rfl ?_
  refine aw_getR dX5_begin_8 flX5_15 hS.o hS.p1 ?_
  refine aw_iload_n dX5_begin_11 rfl ?_
  refine aw_iload_n dX5_begin_12 rfl ?_
  refine aw_iast dX5_begin_13 hS.s1 rfl (by omega) rfl ?_
  refine aw_iconst (v := nI 0) dX5_begin_14 (by decide) ?_
  refine aw_pc (pc2 := 15) rfl ?_
  refine aw_istore dX5_begin_15 (by decide) ?_
  refine aw_lv (lv2 := [.ref _, .int _, .int _, .int _, .int _]) rfl ?_
  refine aw_toM rfl (aw_fr_0 J (b + 3) (s * 12) 0) ?_
  exact lX5_begin hS hs hd hQ 13 0 (by omega) (by omega)
theorem tX5_hasRoom {G : aw_G} {d : Nat} {Ω : aw_O} {I : aw_MI} {J : aw_MJ} {Q : Int32 → aw_O → aw_MI → aw_MJ → Prop} {b s : Nat} {i n : Int32} (hS : aw_sheets Ω b) (hs : s < 4) (hQ : Q (sp_room (I (b + 2) s) i n) Ω I J) : aw_Call G MX5_hasRoom d 0 0 [.ref (aw_ad G b), .int (nI s), .int i, .int n] Ω I J (aw_QI Q) := by
  refine aw_enter (by decide +kernel) rfl (Nat.le_of_ble_eq_true rfl) ?_
  show AW G MX5_hasRoom (aw_nx Ω) d 0 0 (aw_QI Q) Ω I J 0 0 [.ref (aw_ad G b), .int (nI s), .int i, .int n] 0 []
  refine aw_iload_n dX5_hasRoom_0 rfl ?_
  refine aw_if_lt (t := 34) dX5_hasRoom_1 (by decide) (fun h1 => ?_) (fun h1 => ?_)
  · skip
    refine aw_iconst (v := nI 0) dX5_hasRoom_34 (by decide) ?_
    try simp only [lcmpE, lcmpL, lcmpG, lcmpLE, lcmpGT, nrm_le, nrm_le64, Classical.not_not] at h1
    exact aw_zret dX5_hasRoom_35 rfl (by decide) (by first | (simp only [sp_room, if_pos h1] at hQ; exact hQ) | contradiction) (Nat.zero_le _) (Nat.zero_le _)
  · skip
    refine aw_iload_n dX5_hasRoom_4 rfl ?_
    refine aw_if_lt (t := 34) dX5_hasRoom_5 (by decide) (fun h2 => ?_) (fun h2 => ?_)
    · skip
      refine aw_iconst (v := nI 0) dX5_hasRoom_34 (by decide) ?_
      try simp only [lcmpE, lcmpL, lcmpG, lcmpLE, lcmpGT, nrm_le, nrm_le64, Classical.not_not] at h1
      try simp only [lcmpE, lcmpL, lcmpG, lcmpLE, lcmpGT, nrm_le, nrm_le64, Classical.not_not] at h2
      exact aw_zret dX5_hasRoom_35 rfl (by decide) (by first | (simp only [sp_room, if_neg h1, if_pos h2] at hQ; exact hQ) | contradiction) (Nat.zero_le _) (Nat.zero_le _)
    · skip
      refine aw_iload_n dX5_hasRoom_8 rfl ?_
      refine aw_aload_n dX5_hasRoom_9 rfl ?_
      refine aw_getR dX5_hasRoom_10 flX5_15 hS.o hS.p1 ?_
      refine aw_iload_n dX5_hasRoom_13 rfl ?_
      refine aw_iald dX5_hasRoom_14 hS.s1 rfl (by omega) ?_
      refine aw_pc (pc2 := 15) rfl ?_
      refine aw_icmp_gt (t := 34) dX5_hasRoom_15 (by decide) (fun h3 => ?_) (fun h3 => ?_)
      · skip
        refine aw_iconst (v := nI 0) dX5_hasRoom_34 (by decide) ?_
        try simp only [lcmpE, lcmpL, lcmpG, lcmpLE, lcmpGT, nrm_le, nrm_le64, Classical.not_not] at h1
        try simp only [lcmpE, lcmpL, lcmpG, lcmpLE, lcmpGT, nrm_le, nrm_le64, Classical.not_not] at h2
        try simp only [lcmpE, lcmpL, lcmpG, lcmpLE, lcmpGT, nrm_le, nrm_le64, Classical.not_not] at h3
        exact aw_zret dX5_hasRoom_35 rfl (by decide) (by first | (simp only [sp_room, if_neg h1, if_neg h2, if_pos h3] at hQ; exact hQ) | contradiction) (Nat.zero_le _) (Nat.zero_le _)
      · skip
        refine aw_iload_n dX5_hasRoom_18 rfl ?_
        refine aw_aload_n dX5_hasRoom_19 rfl ?_
        refine aw_getR dX5_hasRoom_20 flX5_15 hS.o hS.p1 ?_
        refine aw_iload_n dX5_hasRoom_23 rfl ?_
        refine aw_iald dX5_hasRoom_24 hS.s1 rfl (by omega) ?_
        refine aw_pc (pc2 := 25) rfl ?_
        refine aw_iload_n dX5_hasRoom_25 rfl ?_
        refine aw_isub dX5_hasRoom_26 ?_
        refine aw_icmp_gt (t := 34) dX5_hasRoom_27 (by decide) (fun h4 => ?_) (fun h4 => ?_)
        · skip
          refine aw_iconst (v := nI 0) dX5_hasRoom_34 (by decide) ?_
          try simp only [lcmpE, lcmpL, lcmpG, lcmpLE, lcmpGT, nrm_le, nrm_le64, Classical.not_not] at h1
          try simp only [lcmpE, lcmpL, lcmpG, lcmpLE, lcmpGT, nrm_le, nrm_le64, Classical.not_not] at h2
          try simp only [lcmpE, lcmpL, lcmpG, lcmpLE, lcmpGT, nrm_le, nrm_le64, Classical.not_not] at h3
          try simp only [lcmpE, lcmpL, lcmpG, lcmpLE, lcmpGT, nrm_le, nrm_le64, Classical.not_not] at h4
          exact aw_zret dX5_hasRoom_35 rfl (by decide) (by first | (simp only [sp_room, if_neg h1, if_neg h2, if_neg h3, if_pos h4] at hQ; exact hQ) | contradiction) (Nat.zero_le _) (Nat.zero_le _)
        · skip
          refine aw_iconst (v := nI 1) dX5_hasRoom_30 (by decide) ?_
          refine aw_goto (t := 35) dX5_hasRoom_31 (by decide) ?_
          try simp only [lcmpE, lcmpL, lcmpG, lcmpLE, lcmpGT, nrm_le, nrm_le64, Classical.not_not] at h1
          try simp only [lcmpE, lcmpL, lcmpG, lcmpLE, lcmpGT, nrm_le, nrm_le64, Classical.not_not] at h2
          try simp only [lcmpE, lcmpL, lcmpG, lcmpLE, lcmpGT, nrm_le, nrm_le64, Classical.not_not] at h3
          try simp only [lcmpE, lcmpL, lcmpG, lcmpLE, lcmpGT, nrm_le, nrm_le64, Classical.not_not] at h4
          exact aw_zret dX5_hasRoom_35 rfl (by decide) (by first | (simp only [sp_room, if_neg h1, if_neg h2, if_neg h3, if_neg h4] at hQ; exact hQ) | contradiction) (Nat.zero_le _) (Nat.zero_le _)
theorem tX5_move {G : aw_G} {d : Nat} {Ω : aw_O} {I : aw_MI} {J : aw_MJ} {Q : aw_O → aw_MI → aw_MJ → Prop} {b s i t j n : Nat} (hS : aw_sheets Ω b) (hs : s < 4) (ht : t < 4) (hi : i + n ≤ 12) (hj : j + n ≤ 12) (hd : 2 ≤ d) (hQ : Q Ω I (aw_cp J (b + 3) (b + 3) (s * 12 + i) (t * 12 + j) n)) : aw_Call G MX5_move d 0 0 [.ref (aw_ad G b), .int (nI s), .int (nI i), .int (nI t), .int (nI j), .int (nI n)] Ω I J (aw_QV Q) := by
  refine aw_enter (by decide +kernel) rfl (Nat.le_of_ble_eq_true rfl) ?_
  show AW G MX5_move (aw_nx Ω) d 0 0 (aw_QV Q) Ω I J 0 0 [.ref (aw_ad G b), .int (nI s), .int (nI i), .int (nI t), .int (nI j), .int (nI n)] 0 []
  refine aw_aload_n dX5_move_0 rfl ?_
  refine aw_getR dX5_move_1 flX5_18 hS.o hS.p2 ?_
  refine aw_iload_n dX5_move_4 rfl ?_
  refine aw_bipush (v := nI 12) dX5_move_5 (by decide) ?_
  refine aw_imulN dX5_move_7 ?_
  refine aw_pc (pc2 := 8) rfl ?_
  refine aw_iload_n dX5_move_8 rfl ?_
  refine aw_iaddN dX5_move_9 ?_
  refine aw_aload_n dX5_move_10 rfl ?_
  refine aw_getR dX5_move_11 flX5_18 hS.o hS.p2 ?_
  refine aw_iload_n dX5_move_14 rfl ?_
  refine aw_bipush (v := nI 12) dX5_move_15 (by decide) ?_
  refine aw_pc (pc2 := 17) rfl ?_
  refine aw_imulN dX5_move_17 ?_
  refine aw_iload dX5_move_18 rfl ?_
  refine aw_iaddN dX5_move_20 ?_
  refine aw_iload dX5_move_21 rfl ?_
  refine aw_copyJ dX5_move_23 lcX5_32 hS.s2 hS.s2 rfl rfl rfl (by omega) (by omega) (Nat.le_of_ble_eq_true rfl) (by omega) rfl ?_
  exact aw_vret dX5_move_26 rfl (hQ) (Nat.zero_le _) (Nat.zero_le _)
theorem lX5_isAllWithin {G : aw_G} {d : Nat} {Ω : aw_O} {I : aw_MI} {J : aw_MJ} {Q : Int32 → aw_O → aw_MI → aw_MJ → Prop} {b s e : Nat} {v : Int64} (hS : aw_sheets Ω b) (hs : s < 4) (he : I (b + 2) s = nI e) (h12 : e ≤ 12) (hd : 1 ≤ d)  : ∀ (z k : Nat), z + k = e → Q (sp_in (fun i => J (b + 3) (s * 12 + i)) v k z) Ω I J → AW G MX5_isAllWithin (aw_nx Ω) d 0 0 (aw_QI Q) Ω I J 0 0 [.ref (aw_ad G b), .int (nI s), .long v, .null, .int (nI k)] 3 [] := by
  intro z
  induction z with
  | zero =>
    intro k h0 hQ
    refine aw_iload dX5_isAllWithin_3 rfl ?_
    refine aw_aload_n dX5_isAllWithin_5 rfl ?_
    refine aw_getR dX5_isAllWithin_6 flX5_15 hS.o hS.p1 ?_
    refine aw_iload_n dX5_isAllWithin_9 rfl ?_
    refine aw_ialdv (v := nI e) dX5_isAllWithin_10 hS.s1 rfl (by omega) he ?_
    refine aw_geN (t := 47) dX5_isAllWithin_11 (by decide) (by omega) (by omega) (fun h1 => ?_) (fun h1 => absurd h1 (by omega))
    refine aw_iconst (v := nI 1) dX5_isAllWithin_47 (by decide) ?_
    exact aw_zret dX5_isAllWithin_48 rfl (by decide) hQ (Nat.zero_le _) (Nat.zero_le _)
  | succ z ih =>
    intro k h0 hQ
    refine aw_iload dX5_isAllWithin_3 rfl ?_
    refine aw_aload_n dX5_isAllWithin_5 rfl ?_
    refine aw_getR dX5_isAllWithin_6 flX5_15 hS.o hS.p1 ?_
    refine aw_iload_n dX5_isAllWithin_9 rfl ?_
    refine aw_ialdv (v := nI e) dX5_isAllWithin_10 hS.s1 rfl (by omega) he ?_
    refine aw_pc (pc2 := 11) rfl ?_
    refine aw_geN (t := 47) dX5_isAllWithin_11 (by decide) (by omega) (by omega) (fun h1 => ?_) (fun h1 => ?_)
    · skip
      refine aw_iconst (v := nI 1) dX5_isAllWithin_47 (by decide) ?_
      exact aw_zret dX5_isAllWithin_48 rfl (by decide) (absurd h1 (by omega)) (Nat.zero_le _) (Nat.zero_le _)
    · skip
      refine aw_aload_n dX5_isAllWithin_14 rfl ?_
      refine aw_iload_n dX5_isAllWithin_15 rfl ?_
      refine aw_iload dX5_isAllWithin_16 rfl ?_
      refine aw_cvL (As := [_, _]) (d' := d - 1) dX5_isAllWithin_18 lkX5_38 hS.o (by omega) rfl rfl (Nat.le_of_ble_eq_true rfl) ⟨Nat.le_refl _, Nat.le_refl _⟩ (tX5_at hS hs (by omega) ?_)
      refine aw_lload_n dX5_isAllWithin_21 rfl ?_
      refine aw_pc (pc2 := 22) rfl ?_
      refine aw_lneg dX5_isAllWithin_22 ?_
      refine aw_lcmp dX5_isAllWithin_23 ?_
      refine aw_if_lt (t := 39) dX5_isAllWithin_24 (by decide) (fun h2 => ?_) (fun h2 => ?_)
      · skip
        refine aw_iconst (v := nI 0) dX5_isAllWithin_39 (by decide) ?_
        try simp only [lcmpE, lcmpL, lcmpG, lcmpLE, lcmpGT, nrm_le, nrm_le64, Classical.not_not] at h2
        exact aw_zret dX5_isAllWithin_40 rfl (by decide) (by first | (simp only [sp_in, if_pos h2] at hQ; exact hQ) | contradiction) (Nat.zero_le _) (Nat.zero_le _)
      · skip
        refine aw_aload_n dX5_isAllWithin_27 rfl ?_
        refine aw_iload_n dX5_isAllWithin_28 rfl ?_
        refine aw_iload dX5_isAllWithin_29 rfl ?_
        refine aw_cvL (As := [_, _]) (d' := d - 1) dX5_isAllWithin_31 lkX5_38 hS.o (by omega) rfl rfl (Nat.le_of_ble_eq_true rfl) ⟨Nat.le_refl _, Nat.le_refl _⟩ (tX5_at hS hs (by omega) ?_)
        refine aw_lload_n dX5_isAllWithin_34 rfl ?_
        refine aw_pc (pc2 := 35) rfl ?_
        refine aw_lcmp dX5_isAllWithin_35 ?_
        refine aw_if_le (t := 41) dX5_isAllWithin_36 (by decide) (fun h3 => ?_) (fun h3 => ?_)
        · skip
          refine aw_iincN dX5_isAllWithin_41 rfl (by decide) ?_
          refine aw_lv (lv2 := [.ref _, .int _, .long _, .null, .int _]) rfl ?_
          refine aw_goto (t := 3) dX5_isAllWithin_44 (by decide) ?_
          simp only [lcmpE, lcmpL, lcmpG, lcmpLE, lcmpGT, nrm_le, nrm_le64, Classical.not_not] at h2 h3
          exact ih (k + 1) (by omega) (by simp only [sp_in, if_neg h2, if_neg h3] at hQ; exact hQ)
        · skip
          refine aw_iconst (v := nI 0) dX5_isAllWithin_39 (by decide) ?_
          try simp only [lcmpE, lcmpL, lcmpG, lcmpLE, lcmpGT, nrm_le, nrm_le64, Classical.not_not] at h2
          try simp only [lcmpE, lcmpL, lcmpG, lcmpLE, lcmpGT, nrm_le, nrm_le64, Classical.not_not] at h3
          exact aw_zret dX5_isAllWithin_40 rfl (by decide) (by first | (simp only [sp_in, if_neg h2, if_pos h3] at hQ; exact hQ) | contradiction) (Nat.zero_le _) (Nat.zero_le _)
theorem tX5_isAllWithin {G : aw_G} {d : Nat} {Ω : aw_O} {I : aw_MI} {J : aw_MJ} {Q : Int32 → aw_O → aw_MI → aw_MJ → Prop} {b s e : Nat} {v : Int64} (hS : aw_sheets Ω b) (hs : s < 4) (he : I (b + 2) s = nI e) (h12 : e ≤ 12) (hd : 1 ≤ d) (hQ : Q (sp_in (fun i => J (b + 3) (s * 12 + i)) v 0 e) Ω I J) : aw_Call G MX5_isAllWithin d 0 0 [.ref (aw_ad G b), .int (nI s), .long v] Ω I J (aw_QI Q) := by
  refine aw_enter (by decide +kernel) rfl (Nat.le_of_ble_eq_true rfl) ?_
  show AW G MX5_isAllWithin (aw_nx Ω) d 0 0 (aw_QI Q) Ω I J 0 0 [.ref (aw_ad G b), .int (nI s), .long v, .null, .null] 0 []
  refine aw_iconst (v := nI 0) dX5_isAllWithin_0 (by decide) ?_
  refine aw_istore dX5_isAllWithin_1 (by decide) ?_
  refine aw_lv (lv2 := [.ref _, .int _, .long _, .null, .int _]) rfl ?_
  exact lX5_isAllWithin hS hs he h12 hd e 0 (by omega) hQ

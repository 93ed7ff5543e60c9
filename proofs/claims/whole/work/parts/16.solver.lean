/-! THE SOLVER's methods that only read -/
def sp_rw (I : aw_MI) (c l : Nat) : Nat → Int32 := fun i => sp_row (I (c + 3) l) (I (c + 6) (l * 3 + i))
def sp_bd (I : aw_MI) (c l : Nat) (h : Int32) : Int32 := sp_bnd (I (c + 3) l) (I (c + 4) l + h * I (c + 5) l)
/-- what a line's bound leaves at the point p, at height h -/
def sp_slk (I : aw_MI) (J : aw_MJ) (c p n : Nat) (h : Int32) (l : Nat) : Int64 := sp_left (sp_bd I c l h) (J p 2) (sp_rw I c l) (J (p + 1)) n
def sp_or (f : Nat → Bool) : Nat → Int32
  | 0 => nI 0
  | i + 1 => sp_or f i ||| (if f i = true then nI 1 <<< (nI i &&& 31) else nI 0)
def sp_fit (kd : Nat → Int32) (y sl : Nat → Int64) (st : Int32) : Nat → Nat → Int32
  | _, 0 => nI 1
  | l, z + 1 => if y l < 0 then (if sp_on (kd l) = 0 then nI 0 else if st >>> (nI l &&& 31) &&& nI 1 = 0 then sp_fit kd y sl st (l + 1) z else if sp_held (kd l) (sl l) = 0 then nI 0 else sp_fit kd y sl st (l + 1) z) else if st >>> (nI l &&& 31) &&& nI 1 = 0 then sp_fit kd y sl st (l + 1) z else if sp_held (kd l) (sl l) = 0 then nI 0 else sp_fit kd y sl st (l + 1) z
def sp_w1 (p : Nat → Int32) (x : Nat → Int64) : Nat → Int64
  | 0 => 0
  | i + 1 => sp_w1 p x i + (p i).toInt64 * x i
def sp_w2 (a : Int64) (b : Nat → Int32) (y : Nat → Int64) : Nat → Int64
  | 0 => a
  | l + 1 => sp_w2 a b y l - (b l).toInt64 * y l
def sp_wth (I : aw_MI) (J : aw_MJ) (c p n m : Nat) (h : Int32) : Int64 := sp_w2 (sp_w1 (I (c + 2)) (J (p + 1)) n) (fun l => sp_bd I c l h) (J (p + 2)) m
theorem sp_or_t {f : Nat → Bool} {i : Nat} (h : f i = true) : sp_or f i ||| nI 1 <<< (nI i &&& 31) = sp_or f (i + 1) := by
  show _ = sp_or f i ||| _
  rw [if_pos h]
theorem sp_or_f {f : Nat → Bool} {i : Nat} (h : ¬ f i = true) : sp_or f i ||| nI 0 = sp_or f (i + 1) := by
  show _ = sp_or f i ||| _
  rw [if_neg h]
theorem sp_held01 (kd : Int32) (v : Int64) : sp_held kd v = nI 0 ∨ sp_held kd v = nI 1 := by
  unfold sp_held
  by_cases h : kd = nI 2
  · rw [if_pos h]
    by_cases h2 : v = 0
    · rw [if_pos h2]; exact Or.inr rfl
    · rw [if_neg h2]; exact Or.inl rfl
  · rw [if_neg h]
    by_cases h2 : v < 0
    · rw [if_pos h2]; exact Or.inl rfl
    · rw [if_neg h2]; exact Or.inr rfl
def sp_hbt (I : aw_MI) (J : aw_MJ) (c p n : Nat) (h : Int32) (l : Nat) : Bool := decide (¬ sp_held (I (c + 3) l) (sp_slk I J c p n h l) = 0)
def sp_tbt (I : aw_MI) (J : aw_MJ) (c p n : Nat) (h : Int32) (l : Nat) : Bool := decide (sp_slk I J c p n h l = 0)

theorem tX6_slackOf {G : aw_G} {d : Nat} {Ω : aw_O} {I : aw_MI} {J : aw_MJ} {Q : Int64 → aw_O → aw_MI → aw_MJ → Prop} {s c n l : Nat} (hS : aw_solver Ω s c) (hn : I c 0 = nI n) (hn3 : n ≤ 3) (hl : l < 6) (hd : 2 ≤ d) (hQ : Q (sp_slk I J c (s + 1) n (I s 10) l) Ω I J) : aw_Call G MX6_slackOf d 0 0 [.ref (aw_ad G s), .int (nI l)] Ω I J (aw_QL Q) := by
  refine aw_enter (by decide +kernel) rfl (Nat.le_of_ble_eq_true rfl) ?_
  show AW G MX6_slackOf (aw_nx Ω) d 0 0 (aw_QL Q) Ω I J 0 0 [.ref (aw_ad G s), .int (nI l)] 0 []
  refine aw_aload_n dX6_slackOf_0 rfl ?_
  refine aw_getR dX6_slackOf_1 flX6_36 hS.o hS.p0 ?_
  refine aw_aload_n dX6_slackOf_4 rfl ?_
  refine aw_getR dX6_slackOf_5 flX6_36 hS.o hS.p0 ?_
  refine aw_iload_n dX6_slackOf_8 rfl ?_
  refine aw_pc (pc2 := 9) rfl ?_
  refine aw_aload_n dX6_slackOf_9 rfl ?_
  refine aw_getI dX6_slackOf_10 flX6_112 hS.o ?_
  refine aw_cvI (As := [_, _]) (d' := d - 1) dX6_slackOf_13 lkX6_98 hS.q0.o (by omega) rfl rfl (Nat.le_of_ble_eq_true rfl) ⟨Nat.le_refl _, Nat.le_refl _⟩ (tX1_boundOf hS.q0 (by omega) ?_)
  refine aw_iload_n dX6_slackOf_16 rfl ?_
  refine aw_aload_n dX6_slackOf_17 rfl ?_
  refine aw_getR dX6_slackOf_18 flX6_12 hS.o hS.p1 ?_
  refine aw_pc (pc2 := 21) rfl ?_
  refine aw_cvL (As := [_, _, _]) (d' := d - 1) dX6_slackOf_21 lkX6_134 hS.q0.o (by omega) rfl rfl (Nat.le_of_ble_eq_true rfl) ⟨Nat.le_refl _, Nat.le_refl _⟩ (tX1_leftOf hS.q0 hS.q1 hn hn3 hl (by omega) ?_)
  exact aw_lret dX6_slackOf_24 rfl (hQ) (Nat.zero_le _) (Nat.zero_le _)
theorem lX6_heldLines {G : aw_G} {d : Nat} {Ω : aw_O} {I : aw_MI} {J : aw_MJ} {Q : Int32 → aw_O → aw_MI → aw_MJ → Prop} {s c n m : Nat} (hS : aw_solver Ω s c) (hn : I c 0 = nI n) (hn3 : n ≤ 3) (hm : I c 2 = nI m) (hm6 : m ≤ 6) (hd : 3 ≤ d) (hQ : Q (sp_or (sp_hbt I J c (s + 1) n (I s 10)) m) Ω I J) : ∀ (z i : Nat), i ≤ m → m - i < z → AW G MX6_heldLines (aw_nx Ω) d 0 0 (aw_QI Q) Ω I J 0 0 [.ref (aw_ad G s), .int (sp_or (sp_hbt I J c (s + 1) n (I s 10)) i), .int (nI i)] 4 [] := by
  intro z
  induction z with
  | zero =>
    intro i h0 hz
    exact absurd hz (by omega)
  | succ z ih =>
    intro i h0 hz
    refine aw_iload_n dX6_heldLines_4 rfl ?_
    refine aw_aload_n dX6_heldLines_5 rfl ?_
    refine aw_getR dX6_heldLines_6 flX6_36 hS.o hS.p0 ?_
    refine aw_getIv (v := nI m) dX6_heldLines_9 flX6_76 hS.q0.o hm ?_
    refine aw_geN (t := 47) dX6_heldLines_12 (by decide) (by omega) (by omega) (fun h1 => ?_) (fun h1 => ?_)
    · skip
      refine aw_iload_n dX6_heldLines_47 rfl ?_
      have e1 : i = m := by omega
      subst e1
      exact aw_iret dX6_heldLines_48 rfl (hQ) (Nat.zero_le _) (Nat.zero_le _)
    · skip
      refine aw_iload_n dX6_heldLines_15 rfl ?_
      refine aw_aload_n dX6_heldLines_16 rfl ?_
      refine aw_getR dX6_heldLines_17 flX6_36 hS.o hS.p0 ?_
      refine aw_iload_n dX6_heldLines_20 rfl ?_
      refine aw_aload_n dX6_heldLines_21 rfl ?_
      refine aw_pc (pc2 := 22) rfl ?_
      refine aw_iload_n dX6_heldLines_22 rfl ?_
      refine aw_cvL (As := [_]) (d' := d - 1) dX6_heldLines_23 lkX6_126 hS.o (by omega) rfl rfl (Nat.le_of_ble_eq_true rfl) ⟨Nat.le_refl _, Nat.le_refl _⟩ (tX6_slackOf hS hn hn3 (by omega) (by omega) ?_)
      refine aw_cvI (As := [_, _]) (d' := d - 1) dX6_heldLines_26 lkX6_130 hS.q0.o (by omega) rfl rfl (Nat.le_of_ble_eq_true rfl) ⟨Nat.le_refl _, Nat.le_refl _⟩ (tX1_isHeldBy hS.q0 (by omega) (by omega) ?_)
      refine aw_if_eq (t := 38) dX6_heldLines_29 (by decide) (fun h2 => ?_) (fun h2 => ?_)
      · skip
        refine aw_iconst (v := nI 0) dX6_heldLines_38 (by decide) ?_
        refine aw_ior dX6_heldLines_39 ?_
        refine aw_toI (by first | exact sp_or_f (f := sp_hbt I J c (s + 1) n (I s 10)) (by simp only [sp_hbt, decide_eq_true_eq, lcmpE, Classical.not_not] at *; assumption) | exact sp_or_t (f := sp_hbt I J c (s + 1) n (I s 10)) (by simp only [sp_hbt, decide_eq_true_eq, lcmpE, Classical.not_not] at *; assumption)) ?_
        refine aw_istore_n dX6_heldLines_40 (by decide) ?_
        refine aw_lv (lv2 := [.ref _, .int _, .int _]) rfl ?_
        refine aw_iincN dX6_heldLines_41 rfl (by decide) ?_
        refine aw_lv (lv2 := [.ref _, .int _, .int _]) rfl ?_
        refine aw_goto (t := 4) dX6_heldLines_44 (by decide) ?_
        exact ih (i + 1) (by omega) (by omega)
      · skip
        refine aw_iconst (v := nI 1) dX6_heldLines_32 (by decide) ?_
        refine aw_iload_n dX6_heldLines_33 rfl ?_
        refine aw_ishl dX6_heldLines_34 ?_
        refine aw_goto (t := 39) dX6_heldLines_35 (by decide) ?_
        refine aw_ior dX6_heldLines_39 ?_
        refine aw_toI (by first | exact sp_or_f (f := sp_hbt I J c (s + 1) n (I s 10)) (by simp only [sp_hbt, decide_eq_true_eq, lcmpE, Classical.not_not] at *; assumption) | exact sp_or_t (f := sp_hbt I J c (s + 1) n (I s 10)) (by simp only [sp_hbt, decide_eq_true_eq, lcmpE, Classical.not_not] at *; assumption)) ?_
        refine aw_istore_n dX6_heldLines_40 (by decide) ?_
        refine aw_lv (lv2 := [.ref _, .int _, .int _]) rfl ?_
        refine aw_iincN dX6_heldLines_41 rfl (by decide) ?_
        refine aw_lv (lv2 := [.ref _, .int _, .int _]) rfl ?_
        refine aw_goto (t := 4) dX6_heldLines_44 (by decide) ?_
        exact ih (i + 1) (by omega) (by omega)
theorem tX6_heldLines {G : aw_G} {d : Nat} {Ω : aw_O} {I : aw_MI} {J : aw_MJ} {Q : Int32 → aw_O → aw_MI → aw_MJ → Prop} {s c n m : Nat} (hS : aw_solver Ω s c) (hn : I c 0 = nI n) (hn3 : n ≤ 3) (hm : I c 2 = nI m) (hm6 : m ≤ 6) (hd : 3 ≤ d) (hQ : Q (sp_or (sp_hbt I J c (s + 1) n (I s 10)) m) Ω I J) : aw_Call G MX6_heldLines d 0 0 [.ref (aw_ad G s)] Ω I J (aw_QI Q) := by
  refine aw_enter (by decide +kernel) rfl (Nat.le_of_ble_eq_true rfl) ?_
  show AW G MX6_heldLines (aw_nx Ω) d 0 0 (aw_QI Q) Ω I J 0 0 [.ref (aw_ad G s), .null, .null] 0 []
  refine aw_iconst (v := nI 0) dX6_heldLines_0 (by decide) ?_
  refine aw_istore_n dX6_heldLines_1 (by decide) ?_
  refine aw_lv (lv2 := [.ref _, .int _, .null]) rfl ?_
  refine aw_iconst (v := nI 0) dX6_heldLines_2 (by decide) ?_
  refine aw_istore_n dX6_heldLines_3 (by decide) ?_
  refine aw_lv (lv2 := [.ref _, .int _, .int _]) rfl ?_
  exact lX6_heldLines hS hn hn3 hm hm6 hd hQ (m + 1) 0 (by omega) (by omega)
theorem lX6_tightLines {G : aw_G} {d : Nat} {Ω : aw_O} {I : aw_MI} {J : aw_MJ} {Q : Int32 → aw_O → aw_MI → aw_MJ → Prop} {s c n m : Nat} (hS : aw_solver Ω s c) (hn : I c 0 = nI n) (hn3 : n ≤ 3) (hm : I c 2 = nI m) (hm6 : m ≤ 6) (hd : 3 ≤ d) (hQ : Q (sp_or (sp_tbt I J c (s + 1) n (I s 10)) m) Ω I J) : ∀ (z i : Nat), i ≤ m → m - i < z → AW G MX6_tightLines (aw_nx Ω) d 0 0 (aw_QI Q) Ω I J 0 0 [.ref (aw_ad G s), .int (sp_or (sp_tbt I J c (s + 1) n (I s 10)) i), .int (nI i)] 4 [] := by
  intro z
  induction z with
  | zero =>
    intro i h0 hz
    exact absurd hz (by omega)
  | succ z ih =>
    intro i h0 hz
    refine aw_iload_n dX6_tightLines_4 rfl ?_
    refine aw_aload_n dX6_tightLines_5 rfl ?_
    refine aw_getR dX6_tightLines_6 flX6_36 hS.o hS.p0 ?_
    refine aw_getIv (v := nI m) dX6_tightLines_9 flX6_76 hS.q0.o hm ?_
    refine aw_geN (t := 41) dX6_tightLines_12 (by decide) (by omega) (by omega) (fun h1 => ?_) (fun h1 => ?_)
    · skip
      refine aw_iload_n dX6_tightLines_41 rfl ?_
      have e1 : i = m := by omega
      subst e1
      exact aw_iret dX6_tightLines_42 rfl (hQ) (Nat.zero_le _) (Nat.zero_le _)
    · skip
      refine aw_iload_n dX6_tightLines_15 rfl ?_
      refine aw_aload_n dX6_tightLines_16 rfl ?_
      refine aw_iload_n dX6_tightLines_17 rfl ?_
      refine aw_cvL (As := [_]) (d' := d - 1) dX6_tightLines_18 lkX6_126 hS.o (by omega) rfl rfl (Nat.le_of_ble_eq_true rfl) ⟨Nat.le_refl _, Nat.le_refl _⟩ (tX6_slackOf hS hn hn3 (by omega) (by omega) ?_)
      refine aw_lconst (v := 0) dX6_tightLines_21 (by decide) ?_
      refine aw_pc (pc2 := 22) rfl ?_
      refine aw_lcmp dX6_tightLines_22 ?_
      refine aw_if_ne (t := 32) dX6_tightLines_23 (by decide) (fun h2 => ?_) (fun h2 => ?_)
      · skip
        refine aw_iconst (v := nI 0) dX6_tightLines_32 (by decide) ?_
        refine aw_ior dX6_tightLines_33 ?_
        refine aw_toI (by first | exact sp_or_f (f := sp_tbt I J c (s + 1) n (I s 10)) (by simp only [sp_tbt, decide_eq_true_eq, lcmpE, Classical.not_not] at *; assumption) | exact sp_or_t (f := sp_tbt I J c (s + 1) n (I s 10)) (by simp only [sp_tbt, decide_eq_true_eq, lcmpE, Classical.not_not] at *; assumption)) ?_
        refine aw_istore_n dX6_tightLines_34 (by decide) ?_
        refine aw_lv (lv2 := [.ref _, .int _, .int _]) rfl ?_
        refine aw_iincN dX6_tightLines_35 rfl (by decide) ?_
        refine aw_lv (lv2 := [.ref _, .int _, .int _]) rfl ?_
        refine aw_goto (t := 4) dX6_tightLines_38 (by decide) ?_
        exact ih (i + 1) (by omega) (by omega)
      · skip
        refine aw_iconst (v := nI 1) dX6_tightLines_26 (by decide) ?_
        refine aw_iload_n dX6_tightLines_27 rfl ?_
        refine aw_ishl dX6_tightLines_28 ?_
        refine aw_goto (t := 33) dX6_tightLines_29 (by decide) ?_
        refine aw_ior dX6_tightLines_33 ?_
        refine aw_toI (by first | exact sp_or_f (f := sp_tbt I J c (s + 1) n (I s 10)) (by simp only [sp_tbt, decide_eq_true_eq, lcmpE, Classical.not_not] at *; assumption) | exact sp_or_t (f := sp_tbt I J c (s + 1) n (I s 10)) (by simp only [sp_tbt, decide_eq_true_eq, lcmpE, Classical.not_not] at *; assumption)) ?_
        refine aw_istore_n dX6_tightLines_34 (by decide) ?_
        refine aw_lv (lv2 := [.ref _, .int _, .int _]) rfl ?_
        refine aw_iincN dX6_tightLines_35 rfl (by decide) ?_
        refine aw_lv (lv2 := [.ref _, .int _, .int _]) rfl ?_
        refine aw_goto (t := 4) dX6_tightLines_38 (by decide) ?_
        exact ih (i + 1) (by omega) (by omega)
theorem tX6_tightLines {G : aw_G} {d : Nat} {Ω : aw_O} {I : aw_MI} {J : aw_MJ} {Q : Int32 → aw_O → aw_MI → aw_MJ → Prop} {s c n m : Nat} (hS : aw_solver Ω s c) (hn : I c 0 = nI n) (hn3 : n ≤ 3) (hm : I c 2 = nI m) (hm6 : m ≤ 6) (hd : 3 ≤ d) (hQ : Q (sp_or (sp_tbt I J c (s + 1) n (I s 10)) m) Ω I J) : aw_Call G MX6_tightLines d 0 0 [.ref (aw_ad G s)] Ω I J (aw_QI Q) := by
  refine aw_enter (by decide +kernel) rfl (Nat.le_of_ble_eq_true rfl) ?_
  show AW G MX6_tightLines (aw_nx Ω) d 0 0 (aw_QI Q) Ω I J 0 0 [.ref (aw_ad G s), .null, .null] 0 []
  refine aw_iconst (v := nI 0) dX6_tightLines_0 (by decide) ?_
  refine aw_istore_n dX6_tightLines_1 (by decide) ?_
  refine aw_lv (lv2 := [.ref _, .int _, .null]) rfl ?_
  refine aw_iconst (v := nI 0) dX6_tightLines_2 (by decide) ?_
  refine aw_istore_n dX6_tightLines_3 (by decide) ?_
  refine aw_lv (lv2 := [.ref _, .int _, .int _]) rfl ?_
  exact lX6_tightLines hS hn hn3 hm hm6 hd hQ (m + 1) 0 (by omega) (by omega)
theorem lX6_fits {G : aw_G} {d : Nat} {Ω : aw_O} {I : aw_MI} {J : aw_MJ} {Q : Int32 → aw_O → aw_MI → aw_MJ → Prop} {s c n m : Nat} (hS : aw_solver Ω s c) (hn : I c 0 = nI n) (hn3 : n ≤ 3) (hm : I c 2 = nI m) (hm6 : m ≤ 6) {x : Int32} (hd : 3 ≤ d)  : ∀ (z l : Nat), z + l = m → Q (sp_fit (I (c + 3)) (J (s + 3)) (sp_slk I J c (s + 1) n (I s 10)) x l z) Ω I J → AW G MX6_fits (aw_nx Ω) d 0 0 (aw_QI Q) Ω I J 0 0 [.ref (aw_ad G s), .int x, .int (nI l)] 2 [] := by
  intro z
  induction z with
  | zero =>
    intro l h0 hQ
    refine aw_iload_n dX6_fits_2 rfl ?_
    refine aw_aload_n dX6_fits_3 rfl ?_
    refine aw_getR dX6_fits_4 flX6_36 hS.o hS.p0 ?_
    refine aw_getIv (v := nI m) dX6_fits_7 flX6_76 hS.q0.o hm ?_
    refine aw_geN (t := 72) dX6_fits_10 (by decide) (by omega) (by omega) (fun h1 => ?_) (fun h1 => absurd h1 (by omega))
    refine aw_iconst (v := nI 1) dX6_fits_72 (by decide) ?_
    exact aw_zret dX6_fits_73 rfl (by decide) hQ (Nat.zero_le _) (Nat.zero_le _)
  | succ z ih =>
    intro l h0 hQ
    refine aw_iload_n dX6_fits_2 rfl ?_
    refine aw_aload_n dX6_fits_3 rfl ?_
    refine aw_getR dX6_fits_4 flX6_36 hS.o hS.p0 ?_
    refine aw_getIv (v := nI m) dX6_fits_7 flX6_76 hS.q0.o hm ?_
    refine aw_geN (t := 72) dX6_fits_10 (by decide) (by omega) (by omega) (fun h1 => ?_) (fun h1 => ?_)
    · skip
      refine aw_iconst (v := nI 1) dX6_fits_72 (by decide) ?_
      exact aw_zret dX6_fits_73 rfl (by decide) (absurd h1 (by omega)) (Nat.zero_le _) (Nat.zero_le _)
    · skip
      refine aw_aload_n dX6_fits_13 rfl ?_
      refine aw_getR dX6_fits_14 flX6_12 hS.o hS.p1 ?_
      refine aw_getR dX6_fits_17 flX6_116 hS.q1.o hS.q1.p1 ?_
      refine aw_iload_n dX6_fits_20 rfl ?_
      refine aw_lald dX6_fits_21 hS.q1.s1 rfl (by omega) ?_
      refine aw_pc (pc2 := 22) rfl ?_
      refine aw_lconst (v := 0) dX6_fits_22 (by decide) ?_
      refine aw_lcmp dX6_fits_23 ?_
      refine aw_if_ge (t := 40) dX6_fits_24 (by decide) (fun h2 => ?_) (fun h2 => ?_)
      · skip
        refine aw_iload_n dX6_fits_40 rfl ?_
        refine aw_iload_n dX6_fits_41 rfl ?_
        refine aw_ishr dX6_fits_42 ?_
        refine aw_iconst (v := nI 1) dX6_fits_43 (by decide) ?_
        refine aw_iand dX6_fits_44 ?_
        refine aw_pc (pc2 := 45) rfl ?_
        refine aw_if_eq (t := 66) dX6_fits_45 (by decide) (fun h3 => ?_) (fun h3 => ?_)
        · skip
          refine aw_iincN dX6_fits_66 rfl (by decide) ?_
          refine aw_lv (lv2 := [.ref _, .int _, .int _]) rfl ?_
          refine aw_goto (t := 2) dX6_fits_69 (by decide) ?_
          try simp only [lcmpE, lcmpL, lcmpG, lcmpLE, lcmpGT, nrm_le, nrm_le64, Classical.not_not] at h2
          try simp only [lcmpE, lcmpL, lcmpG, lcmpLE, lcmpGT, nrm_le, nrm_le64, Classical.not_not] at h3
          exact ih (l + 1) (by omega) (by simp only [sp_fit, if_neg h2, if_pos h3] at hQ; exact hQ)
        · skip
          refine aw_aload_n dX6_fits_48 rfl ?_
          refine aw_getR dX6_fits_49 flX6_36 hS.o hS.p0 ?_
          refine aw_iload_n dX6_fits_52 rfl ?_
          refine aw_aload_n dX6_fits_53 rfl ?_
          refine aw_iload_n dX6_fits_54 rfl ?_
          refine aw_pc (pc2 := 55) rfl ?_
          refine aw_cvL (As := [_]) (d' := d - 1) dX6_fits_55 lkX6_126 hS.o (by omega) rfl rfl (Nat.le_of_ble_eq_true rfl) ⟨Nat.le_refl _, Nat.le_refl _⟩ (tX6_slackOf hS hn hn3 (by omega) (by omega) ?_)
          refine aw_cvI (As := [_, _]) (d' := d - 1) dX6_fits_58 lkX6_130 hS.q0.o (by omega) rfl rfl (Nat.le_of_ble_eq_true rfl) ⟨Nat.le_refl _, Nat.le_refl _⟩ (tX1_isHeldBy hS.q0 (by omega) (by omega) ?_)
          refine aw_if_ne (t := 66) dX6_fits_61 (by decide) (fun h4 => ?_) (fun h4 => ?_)
          · skip
            refine aw_iincN dX6_fits_66 rfl (by decide) ?_
            refine aw_lv (lv2 := [.ref _, .int _, .int _]) rfl ?_
            refine aw_goto (t := 2) dX6_fits_69 (by decide) ?_
            try simp only [lcmpE, lcmpL, lcmpG, lcmpLE, lcmpGT, nrm_le, nrm_le64, Classical.not_not] at h2
            try simp only [lcmpE, lcmpL, lcmpG, lcmpLE, lcmpGT, nrm_le, nrm_le64, Classical.not_not] at h3
            try simp only [lcmpE, lcmpL, lcmpG, lcmpLE, lcmpGT, nrm_le, nrm_le64, Classical.not_not] at h4
            exact ih (l + 1) (by omega) (by simp only [sp_fit, if_neg h2, if_neg h3, if_neg h4] at hQ; exact hQ)
          · skip
            refine aw_iconst (v := nI 0) dX6_fits_64 (by decide) ?_
            try simp only [lcmpE, lcmpL, lcmpG, lcmpLE, lcmpGT, nrm_le, nrm_le64, Classical.not_not] at h2
            try simp only [lcmpE, lcmpL, lcmpG, lcmpLE, lcmpGT, nrm_le, nrm_le64, Classical.not_not] at h3
            try simp only [lcmpE, lcmpL, lcmpG, lcmpLE, lcmpGT, nrm_le, nrm_le64, Classical.not_not] at h4
            exact aw_zret dX6_fits_65 rfl (by decide) (by simp only [sp_fit, if_neg h2, if_neg h3, if_pos h4] at hQ; exact hQ) (Nat.zero_le _) (Nat.zero_le _)
      · skip
        refine aw_aload_n dX6_fits_27 rfl ?_
        refine aw_getR dX6_fits_28 flX6_36 hS.o hS.p0 ?_
        refine aw_iload_n dX6_fits_31 rfl ?_
        refine aw_cvI (As := [_]) (d' := d - 1) dX6_fits_32 lkX6_123 hS.q0.o (by omega) rfl rfl (Nat.le_of_ble_eq_true rfl) ⟨Nat.le_refl _, Nat.le_refl _⟩ (tX1_isOn hS.q0 (by omega) ?_)
        refine aw_if_ne (t := 40) dX6_fits_35 (by decide) (fun h5 => ?_) (fun h5 => ?_)
        · skip
          refine aw_iload_n dX6_fits_40 rfl ?_
          refine aw_iload_n dX6_fits_41 rfl ?_
          refine aw_ishr dX6_fits_42 ?_
          refine aw_iconst (v := nI 1) dX6_fits_43 (by decide) ?_
          refine aw_iand dX6_fits_44 ?_
          refine aw_pc (pc2 := 45) rfl ?_
          refine aw_if_eq (t := 66) dX6_fits_45 (by decide) (fun h6 => ?_) (fun h6 => ?_)
          · skip
            refine aw_iincN dX6_fits_66 rfl (by decide) ?_
            refine aw_lv (lv2 := [.ref _, .int _, .int _]) rfl ?_
            refine aw_goto (t := 2) dX6_fits_69 (by decide) ?_
            try simp only [lcmpE, lcmpL, lcmpG, lcmpLE, lcmpGT, nrm_le, nrm_le64, Classical.not_not] at h2
            try simp only [lcmpE, lcmpL, lcmpG, lcmpLE, lcmpGT, nrm_le, nrm_le64, Classical.not_not] at h5
            try simp only [lcmpE, lcmpL, lcmpG, lcmpLE, lcmpGT, nrm_le, nrm_le64, Classical.not_not] at h6
            exact ih (l + 1) (by omega) (by simp only [sp_fit, if_pos h2, if_neg h5, if_pos h6] at hQ; exact hQ)
          · skip
            refine aw_aload_n dX6_fits_48 rfl ?_
            refine aw_getR dX6_fits_49 flX6_36 hS.o hS.p0 ?_
            refine aw_iload_n dX6_fits_52 rfl ?_
            refine aw_aload_n dX6_fits_53 rfl ?_
            refine aw_iload_n dX6_fits_54 rfl ?_
            refine aw_pc (pc2 := 55) rfl ?_
            refine aw_cvL (As := [_]) (d' := d - 1) dX6_fits_55 lkX6_126 hS.o (by omega) rfl rfl (Nat.le_of_ble_eq_true rfl) ⟨Nat.le_refl _, Nat.le_refl _⟩ (tX6_slackOf hS hn hn3 (by omega) (by omega) ?_)
            refine aw_cvI (As := [_, _]) (d' := d - 1) dX6_fits_58 lkX6_130 hS.q0.o (by omega) rfl rfl (Nat.le_of_ble_eq_true rfl) ⟨Nat.le_refl _, Nat.le_refl _⟩ (tX1_isHeldBy hS.q0 (by omega) (by omega) ?_)
            refine aw_if_ne (t := 66) dX6_fits_61 (by decide) (fun h7 => ?_) (fun h7 => ?_)
            · skip
              refine aw_iincN dX6_fits_66 rfl (by decide) ?_
              refine aw_lv (lv2 := [.ref _, .int _, .int _]) rfl ?_
              refine aw_goto (t := 2) dX6_fits_69 (by decide) ?_
              try simp only [lcmpE, lcmpL, lcmpG, lcmpLE, lcmpGT, nrm_le, nrm_le64, Classical.not_not] at h2
              try simp only [lcmpE, lcmpL, lcmpG, lcmpLE, lcmpGT, nrm_le, nrm_le64, Classical.not_not] at h5
              try simp only [lcmpE, lcmpL, lcmpG, lcmpLE, lcmpGT, nrm_le, nrm_le64, Classical.not_not] at h6
              try simp only [lcmpE, lcmpL, lcmpG, lcmpLE, lcmpGT, nrm_le, nrm_le64, Classical.not_not] at h7
              exact ih (l + 1) (by omega) (by simp only [sp_fit, if_pos h2, if_neg h5, if_neg h6, if_neg h7] at hQ; exact hQ)
            · skip
              refine aw_iconst (v := nI 0) dX6_fits_64 (by decide) ?_
              try simp only [lcmpE, lcmpL, lcmpG, lcmpLE, lcmpGT, nrm_le, nrm_le64, Classical.not_not] at h2
              try simp only [lcmpE, lcmpL, lcmpG, lcmpLE, lcmpGT, nrm_le, nrm_le64, Classical.not_not] at h5
              try simp only [lcmpE, lcmpL, lcmpG, lcmpLE, lcmpGT, nrm_le, nrm_le64, Classical.not_not] at h6
              try simp only [lcmpE, lcmpL, lcmpG, lcmpLE, lcmpGT, nrm_le, nrm_le64, Classical.not_not] at h7
              exact aw_zret dX6_fits_65 rfl (by decide) (by simp only [sp_fit, if_pos h2, if_neg h5, if_neg h6, if_pos h7] at hQ; exact hQ) (Nat.zero_le _) (Nat.zero_le _)
        · skip
          refine aw_iconst (v := nI 0) dX6_fits_38 (by decide) ?_
          try simp only [lcmpE, lcmpL, lcmpG, lcmpLE, lcmpGT, nrm_le, nrm_le64, Classical.not_not] at h2
          try simp only [lcmpE, lcmpL, lcmpG, lcmpLE, lcmpGT, nrm_le, nrm_le64, Classical.not_not] at h5
          exact aw_zret dX6_fits_39 rfl (by decide) (by simp only [sp_fit, if_pos h2, if_pos h5] at hQ; exact hQ) (Nat.zero_le _) (Nat.zero_le _)
theorem tX6_fits {G : aw_G} {d : Nat} {Ω : aw_O} {I : aw_MI} {J : aw_MJ} {Q : Int32 → aw_O → aw_MI → aw_MJ → Prop} {s c n m : Nat} (hS : aw_solver Ω s c) (hn : I c 0 = nI n) (hn3 : n ≤ 3) (hm : I c 2 = nI m) (hm6 : m ≤ 6) {x : Int32} (hd : 3 ≤ d) (hQ : Q (sp_fit (I (c + 3)) (J (s + 3)) (sp_slk I J c (s + 1) n (I s 10)) x 0 m) Ω I J) : aw_Call G MX6_fits d 0 0 [.ref (aw_ad G s), .int x] Ω I J (aw_QI Q) := by
  refine aw_enter (by decide +kernel) rfl (Nat.le_of_ble_eq_true rfl) ?_
  show AW G MX6_fits (aw_nx Ω) d 0 0 (aw_QI Q) Ω I J 0 0 [.ref (aw_ad G s), .int x, .null] 0 []
  refine aw_iconst (v := nI 0) dX6_fits_0 (by decide) ?_
  refine aw_istore_n dX6_fits_1 (by decide) ?_
  refine aw_lv (lv2 := [.ref _, .int _, .int _]) rfl ?_
  exact lX6_fits hS hn hn3 hm hm6 hd m 0 (by omega) hQ
theorem lX6_twiceWorth2 {G : aw_G} {d : Nat} {Ω : aw_O} {I : aw_MI} {J : aw_MJ} {Q : Int64 → aw_O → aw_MI → aw_MJ → Prop} {s c n m : Nat} (hS : aw_solver Ω s c) (hn : I c 0 = nI n) (hn3 : n ≤ 3) (hm : I c 2 = nI m) (hm6 : m ≤ 6) (hd : 1 ≤ d) (hQ : Q (sp_wth I J c (s + 1) n m (I s 10)) Ω I J) : ∀ (z i : Nat), i ≤ m → m - i < z → AW G MX6_twiceWorth (aw_nx Ω) d 0 0 (aw_QL Q) Ω I J 0 0 [.ref (aw_ad G s), .long (sp_w2 (sp_w1 (I (c + 2)) (J (s + 2)) n) (fun l => sp_bd I c l (I s 10)) (J (s + 3)) i), .null, .int (nI i)] 46 [] := by
  intro z
  induction z with
  | zero =>
    intro i h0 hz
    exact absurd hz (by omega)
  | succ z ih =>
    intro i h0 hz
    refine aw_iload_n dX6_twiceWorth_46 rfl ?_
    refine aw_aload_n dX6_twiceWorth_47 rfl ?_
    refine aw_getR dX6_twiceWorth_48 flX6_36 hS.o hS.p0 ?_
    refine aw_getIv (v := nI m) dX6_twiceWorth_51 flX6_76 hS.q0.o hm ?_
    refine aw_geN (t := 89) dX6_twiceWorth_54 (by decide) (by omega) (by omega) (fun h1 => ?_) (fun h1 => ?_)
    · skip
      refine aw_lload_n dX6_twiceWorth_89 rfl ?_
      have e1 : i = m := by omega
      subst e1
      exact aw_lret dX6_twiceWorth_90 rfl (hQ) (Nat.zero_le _) (Nat.zero_le _)
    · skip
      refine aw_lload_n dX6_twiceWorth_57 rfl ?_
      refine aw_aload_n dX6_twiceWorth_58 rfl ?_
      refine aw_getR dX6_twiceWorth_59 flX6_36 hS.o hS.p0 ?_
      refine aw_iload_n dX6_twiceWorth_62 rfl ?_
      refine aw_aload_n dX6_twiceWorth_63 rfl ?_
      refine aw_pc (pc2 := 64) rfl ?_
      refine aw_getI dX6_twiceWorth_64 flX6_112 hS.o ?_
      refine aw_cvI (As := [_, _]) (d' := d - 1) dX6_twiceWorth_67 lkX6_98 hS.q0.o (by omega) rfl rfl (Nat.le_of_ble_eq_true rfl) ⟨Nat.le_refl _, Nat.le_refl _⟩ (tX1_boundOf hS.q0 (by omega) ?_)
      refine aw_i2l dX6_twiceWorth_70 ?_
      refine aw_aload_n dX6_twiceWorth_71 rfl ?_
      refine aw_getR dX6_twiceWorth_72 flX6_12 hS.o hS.p1 ?_
      refine aw_getR dX6_twiceWorth_75 flX6_116 hS.q1.o hS.q1.p1 ?_
      refine aw_pc (pc2 := 78) rfl ?_
      refine aw_iload_n dX6_twiceWorth_78 rfl ?_
      refine aw_lald dX6_twiceWorth_79 hS.q1.s1 rfl (by omega) ?_
      refine aw_lmul dX6_twiceWorth_80 ?_
      refine aw_lsub dX6_twiceWorth_81 ?_
      refine aw_lstore_n dX6_twiceWorth_82 (by decide) ?_
      refine aw_lv (lv2 := [.ref _, .long _, .null, .int _]) rfl ?_
      refine aw_iincN dX6_twiceWorth_83 rfl (by decide) ?_
      refine aw_lv (lv2 := [.ref _, .long _, .null, .int _]) rfl ?_
      refine aw_pc (pc2 := 86) rfl ?_
      refine aw_goto (t := 46) dX6_twiceWorth_86 (by decide) ?_
      exact ih (i + 1) (by omega) (by omega)
theorem lX6_twiceWorth1 {G : aw_G} {d : Nat} {Ω : aw_O} {I : aw_MI} {J : aw_MJ} {Q : Int64 → aw_O → aw_MI → aw_MJ → Prop} {s c n m : Nat} (hS : aw_solver Ω s c) (hn : I c 0 = nI n) (hn3 : n ≤ 3) (hm : I c 2 = nI m) (hm6 : m ≤ 6) (hd : 1 ≤ d) (hQ : Q (sp_wth I J c (s + 1) n m (I s 10)) Ω I J) : ∀ (z i : Nat), i ≤ n → n - i < z → AW G MX6_twiceWorth (aw_nx Ω) d 0 0 (aw_QL Q) Ω I J 0 0 [.ref (aw_ad G s), .long (sp_w1 (I (c + 2)) (J (s + 2)) i), .null, .int (nI i)] 4 [] := by
  intro z
  induction z with
  | zero =>
    intro i h0 hz
    exact absurd hz (by omega)
  | succ z ih =>
    intro i h0 hz
    refine aw_iload_n dX6_twiceWorth_4 rfl ?_
    refine aw_aload_n dX6_twiceWorth_5 rfl ?_
    refine aw_getR dX6_twiceWorth_6 flX6_36 hS.o hS.p0 ?_
    refine aw_getIv (v := nI n) dX6_twiceWorth_9 flX6_57 hS.q0.o hn ?_
    refine aw_geN (t := 44) dX6_twiceWorth_12 (by decide) (by omega) (by omega) (fun h1 => ?_) (fun h1 => ?_)
    · skip
      refine aw_iconst (v := nI 0) dX6_twiceWorth_44 (by decide) ?_
      refine aw_istore_n dX6_twiceWorth_45 (by decide) ?_
      refine aw_lv (lv2 := [.ref _, .long _, .null, .int _]) rfl ?_
      have e1 : i = n := by omega
      subst e1
      exact lX6_twiceWorth2 hS hn hn3 hm hm6 hd hQ (m + 1) 0 (by omega) (by omega)
    · skip
      refine aw_lload_n dX6_twiceWorth_15 rfl ?_
      refine aw_aload_n dX6_twiceWorth_16 rfl ?_
      refine aw_getR dX6_twiceWorth_17 flX6_36 hS.o hS.p0 ?_
      refine aw_getR dX6_twiceWorth_20 flX6_89 hS.q0.o hS.q0.p4 ?_
      refine aw_iload_n dX6_twiceWorth_23 rfl ?_
      refine aw_pc (pc2 := 24) rfl ?_
      refine aw_iald dX6_twiceWorth_24 hS.q0.s4 rfl (by omega) ?_
      refine aw_i2l dX6_twiceWorth_25 ?_
      refine aw_aload_n dX6_twiceWorth_26 rfl ?_
      refine aw_getR dX6_twiceWorth_27 flX6_12 hS.o hS.p1 ?_
      refine aw_getR dX6_twiceWorth_30 flX6_120 hS.q1.o hS.q1.p0 ?_
      refine aw_iload_n dX6_twiceWorth_33 rfl ?_
      refine aw_pc (pc2 := 34) rfl ?_
      refine aw_lald dX6_twiceWorth_34 hS.q1.s0 rfl (by omega) ?_
      refine aw_lmul dX6_twiceWorth_35 ?_
      refine aw_ladd dX6_twiceWorth_36 ?_
      refine aw_lstore_n dX6_twiceWorth_37 (by decide) ?_
      refine aw_lv (lv2 := [.ref _, .long _, .null, .int _]) rfl ?_
      refine aw_iincN dX6_twiceWorth_38 rfl (by decide) ?_
      refine aw_lv (lv2 := [.ref _, .long _, .null, .int _]) rfl ?_
      refine aw_goto (t := 4) dX6_twiceWorth_41 (by decide) ?_
      exact ih (i + 1) (by omega) (by omega)
theorem tX6_twiceWorth {G : aw_G} {d : Nat} {Ω : aw_O} {I : aw_MI} {J : aw_MJ} {Q : Int64 → aw_O → aw_MI → aw_MJ → Prop} {s c n m : Nat} (hS : aw_solver Ω s c) (hn : I c 0 = nI n) (hn3 : n ≤ 3) (hm : I c 2 = nI m) (hm6 : m ≤ 6) (hd : 1 ≤ d) (hQ : Q (sp_wth I J c (s + 1) n m (I s 10)) Ω I J) : aw_Call G MX6_twiceWorth d 0 0 [.ref (aw_ad G s)] Ω I J (aw_QL Q) := by
  refine aw_enter (by decide +kernel) rfl (Nat.le_of_ble_eq_true rfl) ?_
  show AW G MX6_twiceWorth (aw_nx Ω) d 0 0 (aw_QL Q) Ω I J 0 0 [.ref (aw_ad G s), .null, .null, .null] 0 []
  refine aw_lconst (v := 0) dX6_twiceWorth_0 (by decide) ?_
  refine aw_lstore_n dX6_twiceWorth_1 (by decide) ?_
  refine aw_lv (lv2 := [.ref _, .long _, .null, .null]) rfl ?_
  refine aw_iconst (v := nI 0) dX6_twiceWorth_2 (by decide) ?_
  refine aw_istore_n dX6_twiceWorth_3 (by decide) ?_
  refine aw_lv (lv2 := [.ref _, .long _, .null, .int _]) rfl ?_
  exact lX6_twiceWorth1 hS hn hn3 hm hm6 hd hQ (n + 1) 0 (by omega) (by omega)

/-! THE SOLVER: rows cleared, elimination -/
theorem aw_wr_at {α : Type} (I : Nat → Nat → α) {a lo n k : Nat} (f : Nat → α) (h : lo + n ≤ k) : aw_wr I a lo n f a k = I a k := by
  unfold aw_wr
  rw [if_neg (by omega)]
theorem aw_wr_lo {α : Type} (I : Nat → Nat → α) {a lo n k : Nat} (f : Nat → α) (h : k < lo) : aw_wr I a lo n f a k = I a k := by
  unfold aw_wr
  rw [if_neg (by omega)]
theorem aw_wr_in {α : Type} (I : Nat → Nat → α) {a lo n j : Nat} (f : Nat → α) (h : j < n) : aw_wr I a lo n f a (lo + j) = f j := by
  unfold aw_wr
  rw [if_pos (by omega), Nat.add_sub_cancel_left]
def ce_f (J : aw_MJ) (a b q : Nat) (dv : Int64) : Nat → Int64 := fun j => (J b q * J a (q + 1 + j) - J a q * J b (q + 1 + j)) / dv

theorem lX6_clearRow {G : aw_G} {d : Nat} {Ω : aw_O} {I : aw_MI} {J : aw_MJ} {Q : aw_O → aw_MI → aw_MJ → Prop} {s c r q w : Nat} {dv : Int64} (hS : aw_solver Ω s c) (hw : I s 11 = nI w) (hw6 : w ≤ 6) (hr : r < 6) (hq : q < w) (hrq : r ≠ q) (hdv : ¬ dv = 0) (hQ : Q Ω I (aw_wr J (s + 9 + r) (q + 1) (w + 1 - q) (ce_f J (s + 9 + r) (s + 9 + q) q dv))) : ∀ (z i : Nat), q + 1 + i ≤ w + 2 → w + 2 - (q + 1 + i) < z → AW G MX6_clearRow (aw_nx Ω) d 0 0 (aw_QV Q) Ω I (aw_wr J (s + 9 + r) (q + 1) i (ce_f J (s + 9 + r) (s + 9 + q) q dv)) 0 0 [.ref (aw_ad G s), .ref (aw_ad G (s + 9 + r)), .ref (aw_ad G (s + 9 + q)), .int (nI q), .long dv, .null, .long (J (s + 9 + q) q), .null, .long (J (s + 9 + r) q), .null, .int (nI (q + 1 + i))] 15 [] := by
  intro z
  induction z with
  | zero =>
    intro i h0 hz
    exact absurd hz (by omega)
  | succ z ih =>
    intro i h0 hz
    refine aw_iload dX6_clearRow_15 rfl ?_
    refine aw_aload_n dX6_clearRow_17 rfl ?_
    refine aw_getIv (v := nI w) dX6_clearRow_18 flX6_79 hS.o hw ?_
    refine aw_iconst (v := nI 2) dX6_clearRow_21 (by decide) ?_
    refine aw_iaddN dX6_clearRow_22 ?_
    refine aw_pc (pc2 := 23) rfl ?_
    refine aw_geN (t := 61) dX6_clearRow_23 (by decide) (by omega) (by omega) (fun h1 => ?_) (fun h1 => ?_)
    · skip
      have e1 : i = w + 1 - q := by omega
      subst e1
      exact aw_vret dX6_clearRow_61 rfl (hQ) (Nat.zero_le _) (Nat.zero_le _)
    · skip
      refine aw_lload dX6_clearRow_26 rfl ?_
      refine aw_lconst (v := 0) dX6_clearRow_28 (by decide) ?_
      refine aw_lcmp dX6_clearRow_29 ?_
      refine aw_if_eq (t := 61) dX6_clearRow_30 (by decide) (fun h2 => ?_) (fun h2 => ?_)
      · skip
        exact aw_vret dX6_clearRow_61 rfl (absurd (lcmpE.mp h2) hdv) (Nat.zero_le _) (Nat.zero_le _)
      · skip
        refine aw_aload_n dX6_clearRow_33 rfl ?_
        refine aw_iload dX6_clearRow_34 rfl ?_
        refine aw_lload dX6_clearRow_36 rfl ?_
        refine aw_aload_n dX6_clearRow_38 rfl ?_
        refine aw_iload dX6_clearRow_39 rfl ?_
        refine aw_pc (pc2 := 41) rfl ?_
        refine aw_laldv (v := J (s + 9 + r) (q + 1 + i)) dX6_clearRow_41 (hS.r r hr).2 rfl (by omega) (aw_wr_at J _ (by omega)) ?_
        refine aw_lmul dX6_clearRow_42 ?_
        refine aw_lload dX6_clearRow_43 rfl ?_
        refine aw_aload_n dX6_clearRow_45 rfl ?_
        refine aw_iload dX6_clearRow_46 rfl ?_
        refine aw_laldv (v := J (s + 9 + q) (q + 1 + i)) dX6_clearRow_48 (hS.r q (Nat.lt_of_lt_of_le hq hw6)).2 rfl (by omega) (by rw [aw_wr_off _ _ (by omega)]) ?_
        refine aw_pc (pc2 := 49) rfl ?_
        refine aw_lmul dX6_clearRow_49 ?_
        refine aw_lsub dX6_clearRow_50 ?_
        refine aw_lload dX6_clearRow_51 rfl ?_
        refine aw_ldiv dX6_clearRow_53 hdv ?_
        refine aw_last dX6_clearRow_54 (hS.r r hr).2 rfl (by omega) rfl ?_
        refine aw_iincN dX6_clearRow_55 rfl (by decide) ?_
        refine aw_lv (lv2 := [.ref _, .ref _, .ref _, .int _, .long _, .null, .long _, .null, .long _, .null, .int _]) rfl ?_
        refine aw_pc (pc2 := 58) rfl ?_
        refine aw_goto (t := 15) dX6_clearRow_58 (by decide) ?_
        refine aw_toM rfl (aw_wr_s J (s + 9 + r) (q + 1) i (ce_f J (s + 9 + r) (s + 9 + q) q dv)) ?_
        exact ih (i + 1) (by omega) (by omega)
theorem tX6_clearRow {G : aw_G} {d : Nat} {Ω : aw_O} {I : aw_MI} {J : aw_MJ} {Q : aw_O → aw_MI → aw_MJ → Prop} {s c r q w : Nat} {dv : Int64} (hS : aw_solver Ω s c) (hw : I s 11 = nI w) (hw6 : w ≤ 6) (hr : r < 6) (hq : q < w) (hrq : r ≠ q) (hdv : ¬ dv = 0) (hQ : Q Ω I (aw_wr J (s + 9 + r) (q + 1) (w + 1 - q) (ce_f J (s + 9 + r) (s + 9 + q) q dv))) : aw_Call G MX6_clearRow d 0 0 [.ref (aw_ad G s), .ref (aw_ad G (s + 9 + r)), .ref (aw_ad G (s + 9 + q)), .int (nI q), .long dv] Ω I J (aw_QV Q) := by
  refine aw_enter (by decide +kernel) rfl (Nat.le_of_ble_eq_true rfl) ?_
  show AW G MX6_clearRow (aw_nx Ω) d 0 0 (aw_QV Q) Ω I J 0 0 [.ref (aw_ad G s), .ref (aw_ad G (s + 9 + r)), .ref (aw_ad G (s + 9 + q)), .int (nI q), .long dv, .null, .null, .null, .null, .null, .null] 0 []
  refine aw_aload_n dX6_clearRow_0 rfl ?_
  refine aw_iload_n dX6_clearRow_1 rfl ?_
  refine aw_lald dX6_clearRow_2 (hS.r q (Nat.lt_of_lt_of_le hq hw6)).2 rfl (by omega) ?_
  refine aw_lstore dX6_clearRow_3 (by decide) ?_
  refine aw_lv (lv2 := [.ref _, .ref _, .ref _, .int _, .long _, .null, .long _, .null, .null, .null, .null]) rfl ?_
  refine aw_aload_n dX6_clearRow_5 rfl ?_
  refine aw_pc (pc2 := 6) rfl ?_
  refine aw_iload_n dX6_clearRow_6 rfl ?_
  refine aw_lald dX6_clearRow_7 (hS.r r hr).2 rfl (by omega) ?_
  refine aw_lstore dX6_clearRow_8 (by decide) ?_
  refine aw_lv (lv2 := [.ref _, .ref _, .ref _, .int _, .long _, .null, .long _, .null, .long _, .null, .null]) rfl ?_
  refine aw_iload_n dX6_clearRow_10 rfl ?_
  refine aw_iconst (v := nI 1) dX6_clearRow_11 (by decide) ?_
  refine aw_iaddN dX6_clearRow_12 ?_
  refine aw_pc (pc2 := 13) rfl ?_
  refine aw_istore dX6_clearRow_13 (by decide) ?_
  refine aw_lv (lv2 := [.ref _, .ref _, .ref _, .int _, .long _, .null, .long _, .null, .long _, .null, .int _]) rfl ?_
  refine aw_toM rfl (aw_wr_0 J (s + 9 + r) (q + 1) (ce_f J (s + 9 + r) (s + 9 + q) q dv)) ?_
  exact lX6_clearRow hS hw hw6 hr hq hrq hdv hQ (w + 3) 0 (by omega) (by omega)
/-- a step of the elimination, without fractions -/
def ce_clear (M : Nat → Nat → Int64) (q : Nat) (dv : Int64) : Nat → Nat → Int64 := fun r k => if r ≠ q ∧ q < k then (M q q * M r k - M r q * M q k) / dv else M r k
/-- the rows before step k, and the number by which step k divides -/
def ce_S (M : Nat → Nat → Int64) : Nat → (Nat → Nat → Int64) × Int64
  | 0 => (M, 1)
  | k + 1 => (ce_clear (ce_S M k).1 k (ce_S M k).2, (ce_S M k).1 k k)
def ce_ok (M : Nat → Nat → Int64) : Nat → Nat → Int32
  | _, 0 => nI 1
  | k, z + 1 => if (ce_S M k).1 k k = 0 then nI 0 else ce_ok M (k + 1) z
/-- rows before r are a step further -/
def ce_P (M : Nat → Nat → Int64) (J0 J : aw_MJ) (s w q r : Nat) : Prop := (∀ r' k, r' < w → k < w + 2 → J (s + 9 + r') k = if r' < r then (ce_S M (q + 1)).1 r' k else (ce_S M q).1 r' k) ∧ ∀ a, a < s + 9 ∨ s + 15 ≤ a → J a = J0 a
theorem ce_P_0 {M : Nat → Nat → Int64} {J0 J : aw_MJ} {s w q : Nat} (h : ce_P M J0 J s w q w) : ce_P M J0 J s w (q + 1) 0 := by
  refine ⟨fun r' k h1 h2 => ?_, h.2⟩
  rw [h.1 r' k h1 h2, if_pos h1, if_neg (by omega)]
theorem ce_P_q {M : Nat → Nat → Int64} {J0 J : aw_MJ} {s w q : Nat} (h : ce_P M J0 J s w q q) : ce_P M J0 J s w q (q + 1) := by
  refine ⟨fun r' k h1 h2 => ?_, h.2⟩
  rw [h.1 r' k h1 h2]
  by_cases e : r' < q
  · rw [if_pos e, if_pos (by omega)]
  · rw [if_neg e]
    by_cases e2 : r' = q
    · subst e2
      rw [if_pos (by omega)]
      show _ = ce_clear _ _ _ r' k
      unfold ce_clear
      rw [if_neg (by omega)]
    · rw [if_neg (by omega)]
theorem ce_P_r {M : Nat → Nat → Int64} {J0 J : aw_MJ} {s w q r : Nat} (h : ce_P M J0 J s w q r) (hr : r < w) (hq : q < w) (hrq : r ≠ q) (hw : w ≤ 6) : ce_P M J0 (aw_wr J (s + 9 + r) (q + 1) (w + 1 - q) (ce_f J (s + 9 + r) (s + 9 + q) q (ce_S M q).2)) s w q (r + 1) := by
  refine ⟨fun r' k h1 h2 => ?_, fun a ha => ?_⟩
  · by_cases e : r' = r
    · subst e
      rw [if_pos (by omega)]
      show _ = ce_clear _ _ _ r' k
      unfold ce_clear
      have hself : ∀ k', k' < w + 2 → J (s + 9 + r') k' = (ce_S M q).1 r' k' := fun k' hk' => by
        rw [h.1 r' k' h1 hk', if_neg (by omega)]
      have hby : ∀ k', k' < w + 2 → J (s + 9 + q) k' = (ce_S M q).1 q k' := fun k' hk' => by
        rw [h.1 q k' hq hk']
        by_cases e3 : q < r'
        · rw [if_pos e3]
          show ce_clear _ _ _ q k' = _
          unfold ce_clear
          rw [if_neg (by omega)]
        · rw [if_neg e3]
      by_cases e4 : q < k
      · rw [if_pos ⟨hrq, e4⟩]
        have e5 := aw_wr_in J (a := s + 9 + r') (lo := q + 1) (n := w + 1 - q) (j := k - (q + 1)) (ce_f J (s + 9 + r') (s + 9 + q) q (ce_S M q).2) (by omega)
        have e6 : q + 1 + (k - (q + 1)) = k := by omega
        rw [e6] at e5
        rw [e5, ce_f, e6, hself k h2, hself q (by omega), hby q (by omega), hby k h2]
      · rw [if_neg (fun z => e4 z.2), aw_wr_lo J _ (by omega), hself k h2]
    · rw [aw_wr_off J _ (by omega), h.1 r' k h1 h2]
      by_cases e2 : r' < r
      · rw [if_pos e2, if_pos (by omega)]
      · rw [if_neg e2, if_neg (by omega)]
  · rw [aw_wr_off J _ (by omega), h.2 a ha]

theorem lX6_eliminate2 {G : aw_G} {d : Nat} {Ω : aw_O} {I : aw_MI} {Q : Int32 → aw_O → aw_MI → aw_MJ → Prop} {s c w q : Nat} {M : Nat → Nat → Int64} {J0 : aw_MJ} (hS : aw_solver Ω s c) (hw : I s 11 = nI w) (hw6 : w ≤ 6) (hq : q < w) (hdv : ¬ (ce_S M q).2 = 0) (hd : 1 ≤ d) (kk : ∀ J', ce_P M J0 J' s w (q + 1) 0 → AW G MX6_eliminate (aw_nx Ω) d 0 0 (aw_QI Q) Ω I J' 0 0 [.ref (aw_ad G s), .long (ce_S M (q + 1)).2, .null, .int (nI (q + 1)), .null, .null, .null] 4 []) : ∀ (z r : Nat) (J : aw_MJ), r ≤ w → w - r < z → ce_P M J0 J s w q r → AW G MX6_eliminate (aw_nx Ω) d 0 0 (aw_QI Q) Ω I J 0 0 [.ref (aw_ad G s), .long ((ce_S M q).2), .null, .int (nI q), .long ((ce_S M (q + 1)).2), .null, .int (nI r)] 34 [] := by
  intro z
  induction z with
  | zero =>
    intro r J h0 hz hP
    exact absurd hz (by omega)
  | succ z ih =>
    intro r J h0 hz hP
    refine aw_iload dX6_eliminate_34 rfl ?_
    refine aw_aload_n dX6_eliminate_36 rfl ?_
    refine aw_getIv (v := nI w) dX6_eliminate_37 flX6_79 hS.o hw ?_
    refine aw_geN (t := 74) dX6_eliminate_40 (by decide) (by omega) (by omega) (fun h1 => ?_) (fun h1 => ?_)
    · skip
      refine aw_lload dX6_eliminate_74 rfl ?_
      refine aw_lstore_n dX6_eliminate_76 (by decide) ?_
      refine aw_lv (lv2 := [.ref _, .long _, .null, .int _, .long _, .null, .int _]) rfl ?_
      refine aw_iincN dX6_eliminate_77 rfl (by decide) ?_
      refine aw_lv (lv2 := [.ref _, .long _, .null, .int _, .long _, .null, .int _]) rfl ?_
      refine aw_goto (t := 4) dX6_eliminate_80 (by decide) ?_
      have e1 : r = w := by omega
      subst e1
      refine aw_frg 4 ?_
      refine aw_frg 6 ?_
      exact kk J (ce_P_0 hP)
    · skip
      refine aw_iload dX6_eliminate_43 rfl ?_
      refine aw_iload_n dX6_eliminate_45 rfl ?_
      refine aw_eqN (t := 68) dX6_eliminate_46 (by decide) (by omega) (by omega) (fun h2 => ?_) (fun h2 => ?_)
      · skip
        refine aw_iincN dX6_eliminate_68 rfl (by decide) ?_
        refine aw_lv (lv2 := [.ref _, .long _, .null, .int _, .long _, .null, .int _]) rfl ?_
        refine aw_goto (t := 34) dX6_eliminate_71 (by decide) ?_
        have e1 : r = q := by omega
        subst e1
        exact ih (r + 1) _ (by omega) (by omega) (ce_P_q hP)
      · skip
        refine aw_aload_n dX6_eliminate_49 rfl ?_
        refine aw_aload_n dX6_eliminate_50 rfl ?_
        refine aw_getR dX6_eliminate_51 flX6_27 hS.o hS.p7 ?_
        refine aw_iload dX6_eliminate_54 rfl ?_
        refine aw_aald dX6_eliminate_56 hS.s7 rfl (by omega) ((hS.r r (by omega)).1) ?_
        refine aw_pc (pc2 := 57) rfl ?_
        refine aw_aload_n dX6_eliminate_57 rfl ?_
        refine aw_getR dX6_eliminate_58 flX6_27 hS.o hS.p7 ?_
        refine aw_iload_n dX6_eliminate_61 rfl ?_
        refine aw_aald dX6_eliminate_62 hS.s7 rfl (by omega) ((hS.r q (by omega)).1) ?_
        refine aw_iload_n dX6_eliminate_63 rfl ?_
        refine aw_lload_n dX6_eliminate_64 rfl ?_
        refine aw_pc (pc2 := 65) rfl ?_
        refine aw_cvV (As := [_, _, _, _]) (d' := d - 1) dX6_eliminate_65 lkX6_104 hS.o (by omega) rfl rfl (Nat.le_of_ble_eq_true rfl) ⟨Nat.le_refl _, Nat.le_refl _⟩ (tX6_clearRow hS hw hw6 (by omega) (by omega) (by omega) hdv ?_)
        refine aw_iincN dX6_eliminate_68 rfl (by decide) ?_
        refine aw_lv (lv2 := [.ref _, .long _, .null, .int _, .long _, .null, .int _]) rfl ?_
        refine aw_goto (t := 34) dX6_eliminate_71 (by decide) ?_
        exact ih (r + 1) _ (by omega) (by omega) (ce_P_r hP (by omega) hq (by omega) hw6)
theorem ce_ok01 (M : Nat → Nat → Int64) : ∀ (z k : Nat), ce_ok M k z = nI 0 ∨ ce_ok M k z = nI 1
  | 0, _ => Or.inr rfl
  | z + 1, k => by
    unfold ce_ok
    by_cases h : (ce_S M k).1 k k = 0
    · rw [if_pos h]; exact Or.inl rfl
    · rw [if_neg h]; exact ce_ok01 M z (k + 1)
theorem lX6_eliminate1 {G : aw_G} {d : Nat} {Ω : aw_O} {I : aw_MI} {Q : Int32 → aw_O → aw_MI → aw_MJ → Prop} {s c w : Nat} {M : Nat → Nat → Int64} {J0 : aw_MJ} (hS : aw_solver Ω s c) (hw : I s 11 = nI w) (hw6 : w ≤ 6) (hd : 1 ≤ d) (hF : ∀ J', (∀ a, a < s + 9 ∨ s + 15 ≤ a → J' a = J0 a) → ce_ok M 0 w = nI 0 → Q (nI 0) Ω I J') (hQ : ∀ J', (∀ a, a < s + 9 ∨ s + 15 ≤ a → J' a = J0 a) → (∀ r k, r < w → k < w + 2 → J' (s + 9 + r) k = (ce_S M w).1 r k) → ce_ok M 0 w = nI 1 → Q (nI 1) Ω I (aw_up J' s 12 (ce_S M w).2)) : ∀ (z q : Nat) (J : aw_MJ), z + q = w → ¬ (ce_S M q).2 = 0 → ce_P M J0 J s w q 0 → ce_ok M 0 w = ce_ok M q z → AW G MX6_eliminate (aw_nx Ω) d 0 0 (aw_QI Q) Ω I J 0 0 [.ref (aw_ad G s), .long ((ce_S M q).2), .null, .int (nI q), .null, .null, .null] 4 [] := by
  intro z
  induction z with
  | zero =>
    intro q J h0 hdv hP hk
    refine aw_iload_n dX6_eliminate_4 rfl ?_
    refine aw_aload_n dX6_eliminate_5 rfl ?_
    refine aw_getIv (v := nI w) dX6_eliminate_6 flX6_79 hS.o hw ?_
    refine aw_geN (t := 83) dX6_eliminate_9 (by decide) (by omega) (by omega) (fun h1 => ?_) (fun h1 => absurd h1 (by omega))
    have e1 : q = w := by omega
    subst e1
    refine aw_aload_n dX6_eliminate_83 rfl ?_
    refine aw_lload_n dX6_eliminate_84 rfl ?_
    refine aw_putJ dX6_eliminate_85 fwX6_108 hS.o rfl ?_
    refine aw_iconst (v := nI 1) dX6_eliminate_88 (by decide) ?_
    exact aw_zret dX6_eliminate_89 rfl (by decide) (hQ J hP.2 (fun r k h1 h2 => by rw [hP.1 r k h1 h2, if_neg (by omega)]) hk) (Nat.zero_le _) (Nat.zero_le _)
  | succ z ih =>
    intro q J h0 hdv hP hk
    refine aw_iload_n dX6_eliminate_4 rfl ?_
    refine aw_aload_n dX6_eliminate_5 rfl ?_
    refine aw_getIv (v := nI w) dX6_eliminate_6 flX6_79 hS.o hw ?_
    refine aw_geN (t := 83) dX6_eliminate_9 (by decide) (by omega) (by omega) (fun h1 => ?_) (fun h1 => ?_)
    · skip
      refine aw_aload_n dX6_eliminate_83 rfl ?_
      refine aw_lload_n dX6_eliminate_84 rfl ?_
      refine aw_putJ dX6_eliminate_85 fwX6_108 hS.o rfl ?_
      refine aw_iconst (v := nI 1) dX6_eliminate_88 (by decide) ?_
      exact aw_zret dX6_eliminate_89 rfl (by decide) (absurd h1 (by omega)) (Nat.zero_le _) (Nat.zero_le _)
    · skip
      refine aw_aload_n dX6_eliminate_12 rfl ?_
      refine aw_getR dX6_eliminate_13 flX6_27 hS.o hS.p7 ?_
      refine aw_iload_n dX6_eliminate_16 rfl ?_
      refine aw_aald dX6_eliminate_17 hS.s7 rfl (by omega) ((hS.r q (by omega)).1) ?_
      refine aw_iload_n dX6_eliminate_18 rfl ?_
      refine aw_pc (pc2 := 19) rfl ?_
      refine aw_laldv (v := (ce_S M q).1 q q) dX6_eliminate_19 (hS.r q (by omega)).2 rfl (by omega) (by rw [hP.1 q q (by omega) (by omega), if_neg (by omega)]) ?_
      refine aw_lstore dX6_eliminate_20 (by decide) ?_
      refine aw_lv (lv2 := [.ref _, .long _, .null, .int _, .long _, .null, .null]) rfl ?_
      refine aw_lload dX6_eliminate_22 rfl ?_
      refine aw_lconst (v := 0) dX6_eliminate_24 (by decide) ?_
      refine aw_lcmp dX6_eliminate_25 ?_
      refine aw_if_ne (t := 31) dX6_eliminate_26 (by decide) (fun h2 => ?_) (fun h2 => ?_)
      · skip
        refine aw_iconst (v := nI 0) dX6_eliminate_31 (by decide) ?_
        refine aw_istore dX6_eliminate_32 (by decide) ?_
        refine aw_lv (lv2 := [.ref _, .long _, .null, .int _, .long _, .null, .int _]) rfl ?_
        exact lX6_eliminate2 (J0 := J0) hS hw hw6 (by omega) hdv hd (fun J' hP' => ih (q + 1) J' (by omega) (fun e => h2 (lcmpE.mpr e)) hP' (by rw [hk, ce_ok, if_neg (fun e => h2 (lcmpE.mpr e))])) (w + 1) 0 J (by omega) (by omega) hP
      · skip
        refine aw_iconst (v := nI 0) dX6_eliminate_29 (by decide) ?_
        exact aw_zret dX6_eliminate_30 rfl (by decide) (hF J hP.2 (by rw [hk, ce_ok, if_pos (lcmpE.mp h2)])) (Nat.zero_le _) (Nat.zero_le _)
theorem tX6_eliminate {G : aw_G} {d : Nat} {Ω : aw_O} {I : aw_MI} {J : aw_MJ} {Q : Int32 → aw_O → aw_MI → aw_MJ → Prop} {s c w : Nat} {M : Nat → Nat → Int64} (hS : aw_solver Ω s c) (hw : I s 11 = nI w) (hw6 : w ≤ 6) (hd : 1 ≤ d) (hM : ∀ r k, r < w → k < w + 2 → J (s + 9 + r) k = M r k) (hF : ∀ J', (∀ a, a < s + 9 ∨ s + 15 ≤ a → J' a = J a) → ce_ok M 0 w = nI 0 → Q (nI 0) Ω I J') (hQ : ∀ J', (∀ a, a < s + 9 ∨ s + 15 ≤ a → J' a = J a) → (∀ r k, r < w → k < w + 2 → J' (s + 9 + r) k = (ce_S M w).1 r k) → ce_ok M 0 w = nI 1 → Q (nI 1) Ω I (aw_up J' s 12 (ce_S M w).2)) : aw_Call G MX6_eliminate d 0 0 [.ref (aw_ad G s)] Ω I J (aw_QI Q) := by
  refine aw_enter (by decide +kernel) rfl (Nat.le_of_ble_eq_true rfl) ?_
  show AW G MX6_eliminate (aw_nx Ω) d 0 0 (aw_QI Q) Ω I J 0 0 [.ref (aw_ad G s), .null, .null, .null, .null, .null, .null] 0 []
  refine aw_lconst (v := 1) dX6_eliminate_0 (by decide) ?_
  refine aw_lstore_n dX6_eliminate_1 (by decide) ?_
  refine aw_lv (lv2 := [.ref _, .long _, .null, .null, .null, .null, .null]) rfl ?_
  refine aw_iconst (v := nI 0) dX6_eliminate_2 (by decide) ?_
  refine aw_istore_n dX6_eliminate_3 (by decide) ?_
  refine aw_lv (lv2 := [.ref _, .long _, .null, .int _, .null, .null, .null]) rfl ?_
  exact lX6_eliminate1 hS hw hw6 hd hF hQ w 0 J (by omega) (show ¬ (1 : Int64) = 0 by decide) ⟨fun r k h1 h2 => by rw [hM r k h1 h2, if_neg (by omega)]; rfl, fun _ _ => rfl⟩ rfl

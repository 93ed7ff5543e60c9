/-! CLASS AND REFERENCE ALIKE -/
/-- a bowl and its lines: the class's at the cell c, the reference's by its numbers -/
def bw (I : aw_MI) (c : Nat) (N T M : Int32) (q p L : Nat → Int32) (n m t : Nat) : Prop := (1 ≤ n ∧ n ≤ 3 ∧ m ≤ 6 ∧ t ≤ 40) ∧ (I c 0 = nI n ∧ I c 1 = nI t ∧ I c 2 = nI m ∧ N = nI n ∧ T = nI t ∧ M = nI m) ∧ (∀ k, k < 9 → I (c + 1) k = q k) ∧ (∀ k, k < 3 → I (c + 2) k = p k) ∧ (∀ l, l < m → I (c + 3) l = L (6 * l) ∧ I (c + 4) l = L (6 * l + 1) ∧ I (c + 5) l = L (6 * l + 2) ∧ ∀ i, i < 3 → I (c + 6) (l * 3 + i) = L (6 * l + 3 + i)) ∧ (∀ r k, r < 3 → k < 3 → q (3 * r + k) = q (3 * k + r) ∧ (q (3 * r + k)).toInt.natAbs ≤ if r = k then 20 else 9) ∧ (∀ r, r < 3 → (p r).toInt.natAbs ≤ 99) ∧ ∀ l, l < m → (L (6 * l + 1)).toInt.natAbs ≤ 99 ∧ (L (6 * l + 2)).toInt.natAbs ≤ 9 ∧ ∀ i, i < 3 → (L (6 * l + 3 + i)).toInt.natAbs ≤ 9
theorem bw_c {I I' : aw_MI} {c c' : Nat} {N T M N' T' M' : Int32} {q p L q' p' L' : Nat → Int32} {n m t : Nat} (h : bw I c N T M q p L n m t) (e0 : ∀ k, k < 3 → I' c' k = I c k) (e1 : ∀ k, k < 9 → I' (c' + 1) k = I (c + 1) k) (e2 : ∀ k, k < 3 → I' (c' + 2) k = I (c + 2) k) (e3 : ∀ k, k < 6 → I' (c' + 3) k = I (c + 3) k ∧ I' (c' + 4) k = I (c + 4) k ∧ I' (c' + 5) k = I (c + 5) k) (e6 : ∀ k, k < 18 → I' (c' + 6) k = I (c + 6) k) (eN : N' = N) (eT : T' = T) (eM : M' = M) (eq : ∀ k, k < 9 → q' k = q k) (ep : ∀ k, k < 3 → p' k = p k) (eL : ∀ k, k < 36 → L' k = L k) : bw I' c' N' T' M' q' p' L' n m t := by
  obtain ⟨h1, h2, h3, h4, h5, h6, h7, h8⟩ := h
  refine ⟨h1, ⟨?_, ?_, ?_, ?_, ?_, ?_⟩, fun k hk => ?_, fun k hk => ?_, fun l hl => ⟨?_, ?_, ?_, fun i hi => ?_⟩, fun r k hr hk => ?_, fun r hr => ?_, fun l hl => ⟨?_, ?_, fun i hi => ?_⟩⟩
  · rw [e0 0 (by omega)]; exact h2.1
  · rw [e0 1 (by omega)]; exact h2.2.1
  · rw [e0 2 (by omega)]; exact h2.2.2.1
  · rw [eN]; exact h2.2.2.2.1
  · rw [eT]; exact h2.2.2.2.2.1
  · rw [eM]; exact h2.2.2.2.2.2
  · rw [e1 k hk, eq k hk]; exact h3 k hk
  · rw [e2 k hk, ep k hk]; exact h4 k hk
  · rw [(e3 l (by omega)).1, eL _ (by omega)]; exact (h5 l hl).1
  · rw [(e3 l (by omega)).2.1, eL _ (by omega)]; exact (h5 l hl).2.1
  · rw [(e3 l (by omega)).2.2, eL _ (by omega)]; exact (h5 l hl).2.2.1
  · rw [e6 _ (by omega), eL _ (by omega)]; exact (h5 l hl).2.2.2 i hi
  · rw [eq _ (by omega), eq _ (by omega)]; exact h6 r k hr hk
  · rw [ep r hr]; exact h7 r hr
  · rw [eL _ (by omega)]; exact (h8 l hl).1
  · rw [eL _ (by omega)]; exact (h8 l hl).2.1
  · rw [eL _ (by omega)]; exact (h8 l hl).2.2 i hi
theorem bw_ag {I I' : aw_MI} {c : Nat} {N T M : Int32} {n m t : Nat} (h : bw I c N T M (I' 66) (I' 67) (I' 68) n m t) : ag I I' c n m ∧ rg I' n m := by
  obtain ⟨h1, h2, h3, h4, h5, h6, h7, h8⟩ := h
  refine ⟨⟨fun r k hr hk => ?_, fun r hr => h4 r (by omega), fun l hl => (h5 l hl).1, fun l hl => (h5 l hl).2.1, fun l hl => (h5 l hl).2.2.1, fun l i hl hi => (h5 l hl).2.2.2 i (by omega)⟩, h1.1, h1.2.1, h1.2.2.1, fun r k hr hk => (h6 r k (by omega) (by omega)).1, fun r k hr hk => (h6 r k (by omega) (by omega)).2, fun r hr => h7 r (by omega), fun l hl => (h8 l hl).1, fun l hl => (h8 l hl).2.1, fun l i hl hi => (h8 l hl).2.2 i (by omega)⟩
  rw [show r * 3 + k = 3 * r + k by omega]
  exact h3 _ (by omega)
/-- sheets -/
def re_sh (I : aw_MI) (J : aw_MJ) : Prop := ∀ s, s < 4 → I 57 s = I 81 s ∧ I 58 s = I 82 s ∧ (I 57 s = -1 ∨ I 57 s = nI 0 ∨ I 57 s = nI 1) ∧ (∃ e, e ≤ 12 ∧ I 58 s = nI e) ∧ ∀ i, i < 12 → J 59 (s * 12 + i) = J 83 (12 * s + i)
def by8 (x : Int64) (k : Nat) : Int32 := (x >>> ((nI (8 * k)).toInt64 &&& 63)).toInt32.toInt8.toInt32
/-- the book -/
def re_bo (I : aw_MI) (J : aw_MJ) : Prop := I 64 0 = I 65 8 ∧ J 64 1 = J 65 9 ∧ J 64 2 = J 65 11 ∧ J 64 3 = J 65 12 ∧ (J 65 12 = 0 ∨ (0 < J 65 12 ∧ (J 65 11).toInt.natAbs < 2 ^ 62)) ∧ ∀ k, k < 8 → by8 (J 64 4) k = I 70 k
def re_w (Ω : aw_O) : Prop := aw_main Ω 0 ∧ aw_model Ω 65 ∧ 84 ≤ aw_nx Ω
def re_bw (I : aw_MI) (n m t : Nat) : Prop := bw I 1 (I 65 0) (I 65 3) (I 65 4) (I 66) (I 67) (I 68) n m t
def re_im (I : aw_MI) : Prop := I 0 8 = I 65 6 ∧ (¬ I 0 8 = 0 → ∃ n m t, bw I 8 (I 69 0) (I 69 1) (I 69 2) (fun k => I 69 (3 + k)) (fun k => I 69 (12 + k)) (fun k => I 69 (15 + k)) n m t)
def Rel (Ω : aw_O) (I : aw_MI) (J : aw_MJ) : Prop := re_w Ω ∧ (∃ n m t, re_bw I n m t) ∧ re_im I ∧ re_sh I J ∧ re_bo I J
/-- what all that rests on -/
def vI (I I' : aw_MI) : Prop := ∀ a k, a = 0 ∨ (1 ≤ a ∧ a ≤ 14) ∨ a = 57 ∨ a = 58 ∨ a = 64 ∨ (a = 65 ∧ (k = 0 ∨ k = 3 ∨ k = 4 ∨ k = 6 ∨ k = 8)) ∨ (66 ≤ a ∧ a ≤ 70) ∨ a = 81 ∨ a = 82 → I' a k = I a k
def vJ (J J' : aw_MJ) : Prop := ∀ a k, a = 59 ∨ a = 64 ∨ a = 83 ∨ (a = 65 ∧ (k = 9 ∨ k = 11 ∨ k = 12)) → J' a k = J a k
theorem vI.r (I : aw_MI) : vI I I := fun _ _ _ => rfl
theorem vJ.r (J : aw_MJ) : vJ J J := fun _ _ _ => rfl
theorem vI.t {I I' I'' : aw_MI} (h : vI I I') (g : vI I' I'') : vI I I'' := fun a k e => by rw [g a k e, h a k e]
theorem vJ.t {J J' J'' : aw_MJ} (h : vJ J J') (g : vJ J' J'') : vJ J J'' := fun a k e => by rw [g a k e, h a k e]
theorem re_bw.v {I I' : aw_MI} {n m t : Nat} (h : re_bw I n m t) (v : vI I I') : re_bw I' n m t :=
  bw_c h (fun k _ => v _ k (by omega)) (fun k _ => v _ k (by omega)) (fun k _ => v _ k (by omega)) (fun k _ => ⟨v _ k (by omega), v _ k (by omega), v _ k (by omega)⟩) (fun k _ => v _ k (by omega)) (v _ _ (by omega)) (v _ _ (by omega)) (v _ _ (by omega)) (fun k _ => v _ k (by omega)) (fun k _ => v _ k (by omega)) (fun k _ => v _ k (by omega))
theorem re_im.v {I I' : aw_MI} (h : re_im I) (v : vI I I') : re_im I' := by
  refine ⟨by rw [v 0 8 (by omega), v 65 6 (by omega)]; exact h.1, fun e => ?_⟩
  rw [v 0 8 (by omega)] at e
  obtain ⟨n, m, t, h2⟩ := h.2 e
  exact ⟨n, m, t, bw_c h2 (fun k _ => v _ k (by omega)) (fun k _ => v _ k (by omega)) (fun k _ => v _ k (by omega)) (fun k _ => ⟨v _ k (by omega), v _ k (by omega), v _ k (by omega)⟩) (fun k _ => v _ k (by omega)) (v _ _ (by omega)) (v _ _ (by omega)) (v _ _ (by omega)) (fun k _ => v _ _ (by omega)) (fun k _ => v _ _ (by omega)) (fun k _ => v _ _ (by omega))⟩
theorem re_sh.v {I I' : aw_MI} {J J' : aw_MJ} (h : re_sh I J) (v : vI I I') (w : vJ J J') : re_sh I' J' := by
  intro s hs
  obtain ⟨h1, h2, h3, h4, h5⟩ := h s hs
  rw [v 57 s (by omega), v 81 s (by omega), v 58 s (by omega), v 82 s (by omega)]
  refine ⟨h1, h2, h3, h4, fun i hi => ?_⟩
  rw [w 59 _ (by omega), w 83 _ (by omega)]
  exact h5 i hi
theorem re_bo.v {I I' : aw_MI} {J J' : aw_MJ} (h : re_bo I J) (v : vI I I') (w : vJ J J') : re_bo I' J' := by
  obtain ⟨h1, h2, h3, h4, h5, h6⟩ := h
  unfold re_bo
  rw [v 64 0 (by omega), v 65 8 (by omega), w 64 1 (by omega), w 65 9 (by omega), w 64 2 (by omega), w 65 11 (by omega), w 64 3 (by omega), w 65 12 (by omega), w 64 4 (by omega)]
  exact ⟨h1, h2, h3, h4, h5, fun k hk => by rw [v 70 k (by omega)]; exact h6 k hk⟩
theorem Rel.v {Ω : aw_O} {I I' : aw_MI} {J J' : aw_MJ} (h : Rel Ω I J) (v : vI I I') (w : vJ J J') : Rel Ω I' J' := by
  obtain ⟨h1, ⟨n, m, t, h2⟩, h3, h4, h5⟩ := h
  exact ⟨h1, ⟨n, m, t, h2.v v⟩, h3.v v, h4.v v w, h5.v v w⟩
theorem sv_v22 {I I' : aw_MI} (h : sv_I 22 I I') : vI I I' := fun a k e => by rw [h.1 a (by omega)]
theorem sv_w22 {J J' : aw_MJ} (h : sv_J 22 J J') : vJ J J' := fun a k e => by rw [h a (by omega)]
theorem sv_w39 {J J' : aw_MJ} (h : sv_J 39 J J') : vJ J J' := fun a k e => by rw [h a (by omega)]
theorem so_v {I I' : aw_MI} (h : ∀ a, a < 22 ∨ 39 ≤ a → I' a = I a) : vI I I' := fun a k e => by rw [h a (by omega)]
theorem mr_v {I I' : aw_MI} (h : mr_I I I') : vI I I' := fun a k e => h a k (by omega) (by omega)
theorem mr_w {J J' : aw_MJ} (h : mr_J J J') : vJ J J' := fun a k e => h a k (by omega) (by omega)
theorem wr_v {I I' : aw_MI} (h : wr_I I I') : vI I I' := fun a k e => h a k (by omega) (by omega)
theorem rr_v {I I' : aw_MI} (h : rr_F I I') : vI I I' := fun a k e => h a k (by omega) (by omega)
theorem rr_w {J J' : aw_MJ} (h : rr_J J J') : vJ J J' := fun a k e => h a k (by omega) (by omega)
theorem ng_v {N : Nat} {I I' : aw_MI} (hN : 84 ≤ N) (h : ng_I N I I') : vI I I' := fun a k e => h a k (by omega) (by omega) (by omega)
theorem ng_w {N : Nat} {J J' : aw_MJ} (hN : 84 ≤ N) (h : ng_J N J J') : vJ J J' := fun a k e => h a k (by omega) (by omega) (by omega)
/-- the reference's call answers x, and all is alike again -/
def pr_I (G : aw_G) (M : aw_M) (d mc ms : Nat) (av : List Value) (x : Int32) (Ω : aw_O) (I : aw_MI) (J : aw_MJ) : Prop := ∀ Q : Int32 → aw_O → aw_MI → aw_MJ → Prop, (∀ Ω' I' J', Rel Ω' I' J' → aw_nx Ω' ≤ aw_nx Ω + mc → Q x Ω' I' J') → aw_Call G M d mc ms av Ω I J (aw_QI Q)
def pr_L (G : aw_G) (M : aw_M) (d mc ms : Nat) (av : List Value) (x : Int64) (Ω : aw_O) (I : aw_MI) (J : aw_MJ) : Prop := ∀ Q : Int64 → aw_O → aw_MI → aw_MJ → Prop, (∀ Ω' I' J', Rel Ω' I' J' → aw_nx Ω' ≤ aw_nx Ω + mc → Q x Ω' I' J') → aw_Call G M d mc ms av Ω I J (aw_QL Q)

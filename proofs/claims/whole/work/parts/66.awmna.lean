/-! THE LAYER AW: 6 rows of 8 longs -/
theorem mna_Ca (cR : ClassId) (h : Nat) : ∀ k, mna_C cR h k = arrV cR 6 (fun j => if j < k then .ref (h + 1 + j) else .null)
  | 0 => by
    show ({ cls := cR, slots := Array.replicate 6 .null, vm := .none } : Cell) = _
    rw [arrV_new]
    congr 1
  | k + 1 => by
    show (mna_C cR h k).setSlot k _ = _
    rw [mna_Ca cR h k, arrV_store]
    congr 1
    funext j
    unfold updV
    by_cases e : j = k
    · rw [if_pos e, if_pos (by omega), e]
    · rw [if_neg e]
      show (if j < k then _ else _) = _
      by_cases e2 : j < k
      · rw [if_pos e2, if_pos (by omega)]
      · rw [if_neg e2, if_neg (by omega)]
theorem arrV_c {c : ClassId} {N : Nat} {f g : Nat → Value} (h : ∀ j, j < N → f j = g j) : arrV c N f = arrV c N g := by
  unfold arrV
  rw [show (fun j : Fin N => f j.val) = fun j : Fin N => g j.val from funext fun j => h j.val j.isLt]
theorem mna_Ra (cJ : ClassId) : mna_R cJ = arrV cJ 8 (fun _ => .long 0) := by
  unfold mna_R
  rw [arrV_new]
theorem mna_Hf (H : Heap) (cR cJ : ClassId) : ∀ k, (mna_H H cR cJ k).size = H.size + 1 + k ∧ (∀ x, x < H.size → (mna_H H cR cJ k)[x]? = H[x]?) ∧ (mna_H H cR cJ k)[H.size]? = some (mna_C cR H.size k) ∧ ∀ j, j < k → (mna_H H cR cJ k)[H.size + 1 + j]? = some (mna_R cJ)
  | 0 => by
    refine ⟨by simp [mna_H], fun x hx => ?_, by simp [mna_H], fun j hj => absurd hj (by omega)⟩
    show (H.push _)[x]? = _
    rw [Array.getElem?_push, if_neg (by omega)]
  | k + 1 => by
    obtain ⟨h1, h2, h3, h4⟩ := mna_Hf H cR cJ k
    have key : ∀ x, (mna_H H cR cJ (k + 1))[x]? = if H.size = x then some (mna_C cR H.size (k + 1)) else if x = H.size + 1 + k then some (mna_R cJ) else (mna_H H cR cJ k)[x]? := by
      intro x
      show (((mna_H H cR cJ k).push (mna_R cJ)).setIfInBounds H.size (mna_C cR H.size (k + 1)))[x]? = _
      rw [Array.getElem?_setIfInBounds]
      by_cases e : H.size = x
      · rw [if_pos e, if_pos e, if_pos (by simp; omega)]
      · rw [if_neg e, if_neg e, Array.getElem?_push, h1]
    refine ⟨by simp [mna_H, h1]; omega, fun x hx => ?_, ?_, fun j hj => ?_⟩
    · rw [key x, if_neg (by omega), if_neg (by omega)]
      exact h2 x hx
    · rw [key, if_pos rfl]
    · rw [key, if_neg (by omega)]
      by_cases e : j = k
      · rw [if_pos (by omega)]
      · rw [if_neg (by omega)]
        exact h4 j (by omega)
theorem aw_P_ext {G : aw_G} {Ω : aw_O} {I I' : aw_MI} {J J' : aw_MJ} {S : aw_S} {q : Nat → Option Nat} {H : Heap} (hP : va_P (aw_D G) classes (aw_ws G Ω I J) H) (h1 : ∀ i, i < aw_nx Ω → I' i = I i) (h2 : ∀ i, i < aw_nx Ω → J' i = J i) (hn : va_at (aw_D G) classes (aw_ad G (aw_nx Ω), aw_E G (aw_ext Ω S q) I' J' (aw_nx Ω)) H) : va_P (aw_D G) classes (aw_ws G (aw_ext Ω S q) I' J') H := by
  rw [aw_ws_ext h1 h2]
  refine hP.app (fun k x hx => ?_)
  have hk : k < 1 := (List.getElem?_eq_some_iff.mp hx).1
  rw [show k = 0 by omega] at hx
  cases hx
  exact hn
def mx_O (Ω : aw_O) : Nat → aw_O
  | 0 => aw_ext Ω (.inr (2, 6)) (fun j => some (aw_nx Ω + 1 + j))
  | k + 1 => aw_ext (mx_O Ω k) (.inr (1, 8)) (fun _ => none)
def mx_J (b : Nat) (J : aw_MJ) : aw_MJ := fun a k => if b ≤ a then 0 else J a k
theorem mx_Of (Ω : aw_O) : ∀ k, aw_nx (mx_O Ω k) = aw_nx Ω + 1 + k ∧ (∀ i, i < aw_nx Ω → aw_sh (mx_O Ω k) i = aw_sh Ω i ∧ ∀ j, aw_P (mx_O Ω k) i j = aw_P Ω i j) ∧ aw_is (mx_O Ω k) (aw_nx Ω) (.inr (2, 6)) ∧ (∀ j, aw_P (mx_O Ω k) (aw_nx Ω) j = some (aw_nx Ω + 1 + j)) ∧ ∀ j, j < k → aw_is (mx_O Ω k) (aw_nx Ω + 1 + j) (.inr (1, 8))
  | 0 => by
    refine ⟨rfl, fun i hi => ⟨?_, fun j => ?_⟩, aw_ext_new _ _ _, fun j => ?_, fun j hj => absurd hj (by omega)⟩
    · show (if i = aw_nx Ω then _ else _) = _
      rw [if_neg (Nat.ne_of_lt hi)]
    · show (if i = aw_nx Ω then _ else _) = _
      rw [if_neg (Nat.ne_of_lt hi)]
    · show (if aw_nx Ω = aw_nx Ω then _ else _) = _
      rw [if_pos rfl]
  | k + 1 => by
    obtain ⟨h1, h2, h3, h4, h5⟩ := mx_Of Ω k
    refine ⟨by show aw_nx (mx_O Ω k) + 1 = _; omega, fun i hi => ⟨?_, fun j => ?_⟩, aw_ext_is h3, fun j => ?_, fun j hj => ?_⟩
    · show (if i = aw_nx (mx_O Ω k) then _ else _) = _
      rw [if_neg (by omega)]
      exact (h2 i hi).1
    · show (if i = aw_nx (mx_O Ω k) then _ else _) = _
      rw [if_neg (by omega)]
      exact (h2 i hi).2 j
    · show (if aw_nx Ω = aw_nx (mx_O Ω k) then _ else _) = _
      rw [if_neg (by omega)]
      exact h4 j
    · by_cases e : j = k
      · have := aw_ext_new (mx_O Ω k) (.inr (1, 8)) (fun _ => none)
        rw [h1] at this
        rw [e]
        exact this
      · exact aw_ext_is (h5 j (by omega))
theorem aw_mna {G : aw_G} {M : aw_M} {N0 d mc ms : Nat} {Q : aw_Q} {Ω : aw_O} {I : aw_MI} {J : aw_MJ} {k n : Nat} {lv : List Value} {pc : Nat} {st : List Value} {idx : Nat} (hd : decode (aw_cc M) pc = .ok (.multianewarray idx 2, 4)) (hl2 : Cond.classLink (aw_y M).cls idx "[[J" ∈ aw_tbl) (hk : k + 7 ≤ mc) (hn : n + 54 ≤ ms) (kk : AW G M N0 d mc ms Q (mx_O Ω 6) I (mx_J (aw_nx Ω) J) (k + 7) (n + 54) lv (pc + 4) (.ref (aw_ad G (aw_nx Ω)) :: st)) : AW G M N0 d mc ms Q Ω I J k n lv pc (.int (nI 8) :: .int (nI 6) :: st) := by
  intro p e R s m args below meth c H locs ls Z hF hl hR hS hE
  have hFx := hF
  obtain ⟨hxx, hb, hr, hlk, hml, hown, hts, hK, hnm, hfr, hlo, hmc, hms, hsz, hsc⟩ := hF
  obtain ⟨comp, cR, kR, g1, g2, g3, g4⟩ := mna_over hK.2.2
  have hcJ : comp = aw_cJ G := Option.some.inj (g1.symm.trans (hK.1.2 1 _ rfl).2)
  have hcR : cR = aw_cR G := Option.some.inj (g4.symm.trans (hK.1.2 2 _ rfl).2)
  subst hcJ
  subst hcR
  obtain ⟨-, kJ, hkJ, x, hkindJ⟩ := (hK.1.2 1 _ rfl).1 0 (fun _ => .null)
  refine W.mna (x := x) hxx hb hown (hts _ hl2) g4 g2 g3 hkJ hkindJ hd (by omega) (by omega) (fun L hL => ?_)
  obtain ⟨f1, f2, f3, f4⟩ := mna_Hf H (aw_cR G) (aw_cJ G) 6
  obtain ⟨o1, o2, o3, o4, o5⟩ := mx_Of Ω 6
  have hsize : H.size = aw_bs G + aw_nx Ω := hR.2
  have hP0 : va_P (aw_D G) classes (aw_ws G Ω I (mx_J (aw_nx Ω) J)) (mna_H H (aw_cR G) (aw_cJ G) 6) := by
    have e1 : aw_ws G Ω I (mx_J (aw_nx Ω) J) = aw_ws G Ω I J := by
      unfold aw_ws
      refine List.map_congr_left (fun i hi => ?_)
      rw [aw_E_cong (I' := I) (J' := mx_J (aw_nx Ω) J) (I := I) (J := J) rfl (funext fun q => by
        unfold mx_J
        rw [if_neg (Nat.not_le.mpr (List.mem_range.mp hi))])]
    rw [e1]
    exact hR.1.kept (fun q x hx => f2 x.1 ((hR.1 q x hx).lt))
  have hPk : ∀ j, j ≤ 6 → va_P (aw_D G) classes (aw_ws G (mx_O Ω j) I (mx_J (aw_nx Ω) J)) (mna_H H (aw_cR G) (aw_cJ G) 6) := by
    intro j
    induction j with
    | zero =>
      intro _
      refine aw_P_ext hP0 (fun _ _ => rfl) (fun _ _ => rfl) ?_
      simp only [aw_E, (aw_ext_new Ω (.inr (2, 6)) (fun j => some (aw_nx Ω + 1 + j))).2]
      show (mna_H H (aw_cR G) (aw_cJ G) 6)[aw_bs G + aw_nx Ω]? = _
      rw [← hsize, f3, vp_cell_q, mna_Ca]
      rw [arrV_c (fun q q1 => ?_)]
      rw [if_pos q1, aw_ext_P, if_pos rfl]
      show Value.ref (H.size + 1 + q) = Value.ref (aw_bs G + (aw_nx Ω + 1 + q))
      rw [show H.size + 1 + q = aw_bs G + (aw_nx Ω + 1 + q) by omega]
    | succ j ih =>
      intro hj
      obtain ⟨b1, -, -, -, -⟩ := mx_Of Ω j
      refine aw_P_ext (ih (by omega)) (fun _ _ => rfl) (fun _ _ => rfl) ?_
      simp only [aw_E, (aw_ext_new (mx_O Ω j) (.inr (1, 8)) (fun _ => none)).2]
      show (mna_H H (aw_cR G) (aw_cJ G) 6)[aw_bs G + aw_nx (mx_O Ω j)]? = _
      have e2 := f4 j (by omega)
      rw [show aw_bs G + aw_nx (mx_O Ω j) = H.size + 1 + j by omega, e2, vp_cell_l, mna_Ra]
      rw [arrV_c (fun q q1 => ?_)]
      unfold mx_J
      rw [if_pos (by omega)]
  have hH : aw_ad G (aw_nx Ω) = H.size := hsize.symm
  rw [← hH]
  refine kk p e R s m args below meth c _ (locs ++ L) ls Z hFx hl ⟨hPk 6 (by omega), by omega⟩ ⟨by have := hS.1; omega, fun x h1 h2 => (f2 x (by have := hS.1; omega)).trans (hS.2.1 x h1 h2), fun q hq => ?_⟩ hE
  rcases List.mem_append.mp hq with h | h
  · exact hS.2.2 q h
  · rw [hL q h]
    show aw_bs G ≤ H.size
    omega

/-! THE WORLD: where each object lies, by number (printed by my program gen_world.py) -/
theorem aw_pc {G : aw_G} {M : aw_M} {N0 d mc ms : Nat} {Q : aw_Q} {Ω : aw_O} {I : aw_MI} {J : aw_MJ} {k n : Nat} {lv : List Value} {pc pc2 : Nat} {st : List Value} (h : pc = pc2) (kk : AW G M N0 d mc ms Q Ω I J k n lv pc2 st) : AW G M N0 d mc ms Q Ω I J k n lv pc st := h ▸ kk
theorem aw_lv {G : aw_G} {M : aw_M} {N0 d mc ms : Nat} {Q : aw_Q} {Ω : aw_O} {I : aw_MI} {J : aw_MJ} {k n : Nat} {lv lv2 : List Value} {pc : Nat} {st : List Value} (h : lv = lv2) (kk : AW G M N0 d mc ms Q Ω I J k n lv2 pc st) : AW G M N0 d mc ms Q Ω I J k n lv pc st := h ▸ kk

def aw_bowl (Ω : aw_O) (b : Nat) : Prop := aw_is Ω b (.inl 1) ∧ aw_P Ω b 3 = some (b + 1) ∧ aw_is Ω (b + 1) (.inr (0, 9)) ∧ aw_P Ω b 4 = some (b + 2) ∧ aw_is Ω (b + 2) (.inr (0, 3)) ∧ aw_P Ω b 5 = some (b + 3) ∧ aw_is Ω (b + 3) (.inr (0, 6)) ∧ aw_P Ω b 6 = some (b + 4) ∧ aw_is Ω (b + 4) (.inr (0, 6)) ∧ aw_P Ω b 7 = some (b + 5) ∧ aw_is Ω (b + 5) (.inr (0, 6)) ∧ aw_P Ω b 8 = some (b + 6) ∧ aw_is Ω (b + 6) (.inr (0, 18))
theorem aw_bowl.o {Ω : aw_O} {b : Nat} (h : aw_bowl Ω b) : aw_is Ω b (.inl 1) := h.1
theorem aw_bowl.p3 {Ω : aw_O} {b : Nat} (h : aw_bowl Ω b) : aw_P Ω b 3 = some (b + 1) := h.2.1
theorem aw_bowl.s3 {Ω : aw_O} {b : Nat} (h : aw_bowl Ω b) : aw_is Ω (b + 1) (.inr (0, 9)) := h.2.2.1
theorem aw_bowl.p4 {Ω : aw_O} {b : Nat} (h : aw_bowl Ω b) : aw_P Ω b 4 = some (b + 2) := h.2.2.2.1
theorem aw_bowl.s4 {Ω : aw_O} {b : Nat} (h : aw_bowl Ω b) : aw_is Ω (b + 2) (.inr (0, 3)) := h.2.2.2.2.1
theorem aw_bowl.p5 {Ω : aw_O} {b : Nat} (h : aw_bowl Ω b) : aw_P Ω b 5 = some (b + 3) := h.2.2.2.2.2.1
theorem aw_bowl.s5 {Ω : aw_O} {b : Nat} (h : aw_bowl Ω b) : aw_is Ω (b + 3) (.inr (0, 6)) := h.2.2.2.2.2.2.1
theorem aw_bowl.p6 {Ω : aw_O} {b : Nat} (h : aw_bowl Ω b) : aw_P Ω b 6 = some (b + 4) := h.2.2.2.2.2.2.2.1
theorem aw_bowl.s6 {Ω : aw_O} {b : Nat} (h : aw_bowl Ω b) : aw_is Ω (b + 4) (.inr (0, 6)) := h.2.2.2.2.2.2.2.2.1
theorem aw_bowl.p7 {Ω : aw_O} {b : Nat} (h : aw_bowl Ω b) : aw_P Ω b 7 = some (b + 5) := h.2.2.2.2.2.2.2.2.2.1
theorem aw_bowl.s7 {Ω : aw_O} {b : Nat} (h : aw_bowl Ω b) : aw_is Ω (b + 5) (.inr (0, 6)) := h.2.2.2.2.2.2.2.2.2.2.1
theorem aw_bowl.p8 {Ω : aw_O} {b : Nat} (h : aw_bowl Ω b) : aw_P Ω b 8 = some (b + 6) := h.2.2.2.2.2.2.2.2.2.2.2.1
theorem aw_bowl.s8 {Ω : aw_O} {b : Nat} (h : aw_bowl Ω b) : aw_is Ω (b + 6) (.inr (0, 18)) := h.2.2.2.2.2.2.2.2.2.2.2.2
def aw_point (Ω : aw_O) (b : Nat) : Prop := aw_is Ω b (.inl 3) ∧ aw_P Ω b 0 = some (b + 1) ∧ aw_is Ω (b + 1) (.inr (1, 3)) ∧ aw_P Ω b 1 = some (b + 2) ∧ aw_is Ω (b + 2) (.inr (1, 6))
theorem aw_point.o {Ω : aw_O} {b : Nat} (h : aw_point Ω b) : aw_is Ω b (.inl 3) := h.1
theorem aw_point.p0 {Ω : aw_O} {b : Nat} (h : aw_point Ω b) : aw_P Ω b 0 = some (b + 1) := h.2.1
theorem aw_point.s0 {Ω : aw_O} {b : Nat} (h : aw_point Ω b) : aw_is Ω (b + 1) (.inr (1, 3)) := h.2.2.1
theorem aw_point.p1 {Ω : aw_O} {b : Nat} (h : aw_point Ω b) : aw_P Ω b 1 = some (b + 2) := h.2.2.2.1
theorem aw_point.s1 {Ω : aw_O} {b : Nat} (h : aw_point Ω b) : aw_is Ω (b + 2) (.inr (1, 6)) := h.2.2.2.2
def aw_sheets (Ω : aw_O) (b : Nat) : Prop := aw_is Ω b (.inl 4) ∧ aw_P Ω b 0 = some (b + 1) ∧ aw_is Ω (b + 1) (.inr (0, 4)) ∧ aw_P Ω b 1 = some (b + 2) ∧ aw_is Ω (b + 2) (.inr (0, 4)) ∧ aw_P Ω b 2 = some (b + 3) ∧ aw_is Ω (b + 3) (.inr (1, 48))
theorem aw_sheets.o {Ω : aw_O} {b : Nat} (h : aw_sheets Ω b) : aw_is Ω b (.inl 4) := h.1
theorem aw_sheets.p0 {Ω : aw_O} {b : Nat} (h : aw_sheets Ω b) : aw_P Ω b 0 = some (b + 1) := h.2.1
theorem aw_sheets.s0 {Ω : aw_O} {b : Nat} (h : aw_sheets Ω b) : aw_is Ω (b + 1) (.inr (0, 4)) := h.2.2.1
theorem aw_sheets.p1 {Ω : aw_O} {b : Nat} (h : aw_sheets Ω b) : aw_P Ω b 1 = some (b + 2) := h.2.2.2.1
theorem aw_sheets.s1 {Ω : aw_O} {b : Nat} (h : aw_sheets Ω b) : aw_is Ω (b + 2) (.inr (0, 4)) := h.2.2.2.2.1
theorem aw_sheets.p2 {Ω : aw_O} {b : Nat} (h : aw_sheets Ω b) : aw_P Ω b 2 = some (b + 3) := h.2.2.2.2.2.1
theorem aw_sheets.s2 {Ω : aw_O} {b : Nat} (h : aw_sheets Ω b) : aw_is Ω (b + 3) (.inr (1, 48)) := h.2.2.2.2.2.2
def aw_book (Ω : aw_O) (b : Nat) : Prop := aw_is Ω b (.inl 0)
theorem aw_book.o {Ω : aw_O} {b : Nat} (h : aw_book Ω b) : aw_is Ω b (.inl 0) := h
def aw_solver (Ω : aw_O) (b : Nat) (c : Nat) : Prop := aw_is Ω b (.inl 5) ∧ aw_P Ω b 0 = some (c) ∧ aw_bowl Ω (c) ∧ aw_P Ω b 1 = some (b + 1) ∧ aw_point Ω (b + 1) ∧ aw_P Ω b 2 = some (b + 4) ∧ aw_point Ω (b + 4) ∧ aw_P Ω b 3 = some (b + 7) ∧ aw_is Ω (b + 7) (.inr (0, 64)) ∧ aw_P Ω b 7 = some (b + 8) ∧ aw_is Ω (b + 8) (.inr (2, 6)) ∧ aw_P Ω b 8 = some (b + 15) ∧ aw_is Ω (b + 15) (.inr (0, 3)) ∧ aw_P Ω b 9 = some (b + 16) ∧ aw_is Ω (b + 16) (.inr (0, 41)) ∧ ∀ j, j < 6 → aw_P Ω (b + 8) j = some (b + 9 + j) ∧ aw_is Ω (b + 9 + j) (.inr (1, 8))
theorem aw_solver.o {Ω : aw_O} {b : Nat} {c : Nat} (h : aw_solver Ω b c) : aw_is Ω b (.inl 5) := h.1
theorem aw_solver.p0 {Ω : aw_O} {b : Nat} {c : Nat} (h : aw_solver Ω b c) : aw_P Ω b 0 = some (c) := h.2.1
theorem aw_solver.q0 {Ω : aw_O} {b : Nat} {c : Nat} (h : aw_solver Ω b c) : aw_bowl Ω (c) := h.2.2.1
theorem aw_solver.p1 {Ω : aw_O} {b : Nat} {c : Nat} (h : aw_solver Ω b c) : aw_P Ω b 1 = some (b + 1) := h.2.2.2.1
theorem aw_solver.q1 {Ω : aw_O} {b : Nat} {c : Nat} (h : aw_solver Ω b c) : aw_point Ω (b + 1) := h.2.2.2.2.1
theorem aw_solver.p2 {Ω : aw_O} {b : Nat} {c : Nat} (h : aw_solver Ω b c) : aw_P Ω b 2 = some (b + 4) := h.2.2.2.2.2.1
theorem aw_solver.q2 {Ω : aw_O} {b : Nat} {c : Nat} (h : aw_solver Ω b c) : aw_point Ω (b + 4) := h.2.2.2.2.2.2.1
theorem aw_solver.p3 {Ω : aw_O} {b : Nat} {c : Nat} (h : aw_solver Ω b c) : aw_P Ω b 3 = some (b + 7) := h.2.2.2.2.2.2.2.1
theorem aw_solver.s3 {Ω : aw_O} {b : Nat} {c : Nat} (h : aw_solver Ω b c) : aw_is Ω (b + 7) (.inr (0, 64)) := h.2.2.2.2.2.2.2.2.1
theorem aw_solver.p7 {Ω : aw_O} {b : Nat} {c : Nat} (h : aw_solver Ω b c) : aw_P Ω b 7 = some (b + 8) := h.2.2.2.2.2.2.2.2.2.1
theorem aw_solver.s7 {Ω : aw_O} {b : Nat} {c : Nat} (h : aw_solver Ω b c) : aw_is Ω (b + 8) (.inr (2, 6)) := h.2.2.2.2.2.2.2.2.2.2.1
theorem aw_solver.p8 {Ω : aw_O} {b : Nat} {c : Nat} (h : aw_solver Ω b c) : aw_P Ω b 8 = some (b + 15) := h.2.2.2.2.2.2.2.2.2.2.2.1
theorem aw_solver.s8 {Ω : aw_O} {b : Nat} {c : Nat} (h : aw_solver Ω b c) : aw_is Ω (b + 15) (.inr (0, 3)) := h.2.2.2.2.2.2.2.2.2.2.2.2.1
theorem aw_solver.p9 {Ω : aw_O} {b : Nat} {c : Nat} (h : aw_solver Ω b c) : aw_P Ω b 9 = some (b + 16) := h.2.2.2.2.2.2.2.2.2.2.2.2.2.1
theorem aw_solver.s9 {Ω : aw_O} {b : Nat} {c : Nat} (h : aw_solver Ω b c) : aw_is Ω (b + 16) (.inr (0, 41)) := h.2.2.2.2.2.2.2.2.2.2.2.2.2.2.1
theorem aw_solver.r {Ω : aw_O} {b : Nat} {c : Nat} (h : aw_solver Ω b c) : ∀ j, j < 6 → aw_P Ω (b + 8) j = some (b + 9 + j) ∧ aw_is Ω (b + 9 + j) (.inr (1, 8)) := h.2.2.2.2.2.2.2.2.2.2.2.2.2.2.2
def aw_cert (Ω : aw_O) (b : Nat) (c : Nat) : Prop := aw_is Ω b (.inl 2) ∧ aw_P Ω b 0 = some (c) ∧ aw_bowl Ω (c) ∧ aw_P Ω b 1 = some (b + 1) ∧ aw_point Ω (b + 1)
theorem aw_cert.o {Ω : aw_O} {b : Nat} {c : Nat} (h : aw_cert Ω b c) : aw_is Ω b (.inl 2) := h.1
theorem aw_cert.p0 {Ω : aw_O} {b : Nat} {c : Nat} (h : aw_cert Ω b c) : aw_P Ω b 0 = some (c) := h.2.1
theorem aw_cert.q0 {Ω : aw_O} {b : Nat} {c : Nat} (h : aw_cert Ω b c) : aw_bowl Ω (c) := h.2.2.1
theorem aw_cert.p1 {Ω : aw_O} {b : Nat} {c : Nat} (h : aw_cert Ω b c) : aw_P Ω b 1 = some (b + 1) := h.2.2.2.1
theorem aw_cert.q1 {Ω : aw_O} {b : Nat} {c : Nat} (h : aw_cert Ω b c) : aw_point Ω (b + 1) := h.2.2.2.2
def aw_main (Ω : aw_O) (b : Nat) : Prop := aw_is Ω b (.inl 6) ∧ aw_P Ω b 0 = some (b + 1) ∧ aw_bowl Ω (b + 1) ∧ aw_P Ω b 1 = some (b + 8) ∧ aw_bowl Ω (b + 8) ∧ aw_P Ω b 2 = some (b + 15) ∧ aw_bowl Ω (b + 15) ∧ aw_P Ω b 3 = some (b + 22) ∧ aw_solver Ω (b + 22) (b + 1) ∧ aw_P Ω b 4 = some (b + 39) ∧ aw_solver Ω (b + 39) (b + 15) ∧ aw_P Ω b 5 = some (b + 56) ∧ aw_sheets Ω (b + 56) ∧ aw_P Ω b 6 = some (b + 60) ∧ aw_cert Ω (b + 60) (b + 1) ∧ aw_P Ω b 7 = some (b + 64) ∧ aw_book Ω (b + 64)
theorem aw_main.o {Ω : aw_O} {b : Nat} (h : aw_main Ω b) : aw_is Ω b (.inl 6) := h.1
theorem aw_main.p0 {Ω : aw_O} {b : Nat} (h : aw_main Ω b) : aw_P Ω b 0 = some (b + 1) := h.2.1
theorem aw_main.q0 {Ω : aw_O} {b : Nat} (h : aw_main Ω b) : aw_bowl Ω (b + 1) := h.2.2.1
theorem aw_main.p1 {Ω : aw_O} {b : Nat} (h : aw_main Ω b) : aw_P Ω b 1 = some (b + 8) := h.2.2.2.1
theorem aw_main.q1 {Ω : aw_O} {b : Nat} (h : aw_main Ω b) : aw_bowl Ω (b + 8) := h.2.2.2.2.1
theorem aw_main.p2 {Ω : aw_O} {b : Nat} (h : aw_main Ω b) : aw_P Ω b 2 = some (b + 15) := h.2.2.2.2.2.1
theorem aw_main.q2 {Ω : aw_O} {b : Nat} (h : aw_main Ω b) : aw_bowl Ω (b + 15) := h.2.2.2.2.2.2.1
theorem aw_main.p3 {Ω : aw_O} {b : Nat} (h : aw_main Ω b) : aw_P Ω b 3 = some (b + 22) := h.2.2.2.2.2.2.2.1
theorem aw_main.q3 {Ω : aw_O} {b : Nat} (h : aw_main Ω b) : aw_solver Ω (b + 22) (b + 1) := h.2.2.2.2.2.2.2.2.1
theorem aw_main.p4 {Ω : aw_O} {b : Nat} (h : aw_main Ω b) : aw_P Ω b 4 = some (b + 39) := h.2.2.2.2.2.2.2.2.2.1
theorem aw_main.q4 {Ω : aw_O} {b : Nat} (h : aw_main Ω b) : aw_solver Ω (b + 39) (b + 15) := h.2.2.2.2.2.2.2.2.2.2.1
theorem aw_main.p5 {Ω : aw_O} {b : Nat} (h : aw_main Ω b) : aw_P Ω b 5 = some (b + 56) := h.2.2.2.2.2.2.2.2.2.2.2.1
theorem aw_main.q5 {Ω : aw_O} {b : Nat} (h : aw_main Ω b) : aw_sheets Ω (b + 56) := h.2.2.2.2.2.2.2.2.2.2.2.2.1
theorem aw_main.p6 {Ω : aw_O} {b : Nat} (h : aw_main Ω b) : aw_P Ω b 6 = some (b + 60) := h.2.2.2.2.2.2.2.2.2.2.2.2.2.1
theorem aw_main.q6 {Ω : aw_O} {b : Nat} (h : aw_main Ω b) : aw_cert Ω (b + 60) (b + 1) := h.2.2.2.2.2.2.2.2.2.2.2.2.2.2.1
theorem aw_main.p7 {Ω : aw_O} {b : Nat} (h : aw_main Ω b) : aw_P Ω b 7 = some (b + 64) := h.2.2.2.2.2.2.2.2.2.2.2.2.2.2.2.1
theorem aw_main.q7 {Ω : aw_O} {b : Nat} (h : aw_main Ω b) : aw_book Ω (b + 64) := h.2.2.2.2.2.2.2.2.2.2.2.2.2.2.2.2
def aw_model (Ω : aw_O) (b : Nat) : Prop := aw_is Ω b (.inl 7) ∧ aw_P Ω b 1 = some (b + 1) ∧ aw_is Ω (b + 1) (.inr (0, 9)) ∧ aw_P Ω b 2 = some (b + 2) ∧ aw_is Ω (b + 2) (.inr (0, 3)) ∧ aw_P Ω b 5 = some (b + 3) ∧ aw_is Ω (b + 3) (.inr (0, 36)) ∧ aw_P Ω b 7 = some (b + 4) ∧ aw_is Ω (b + 4) (.inr (0, 51)) ∧ aw_P Ω b 10 = some (b + 5) ∧ aw_is Ω (b + 5) (.inr (0, 8)) ∧ aw_P Ω b 14 = some (b + 6) ∧ aw_is Ω (b + 6) (.inr (1, 36)) ∧ aw_P Ω b 15 = some (b + 7) ∧ aw_is Ω (b + 7) (.inr (1, 64)) ∧ aw_P Ω b 16 = some (b + 8) ∧ aw_is Ω (b + 8) (.inr (1, 3)) ∧ aw_P Ω b 17 = some (b + 9) ∧ aw_is Ω (b + 9) (.inr (1, 6)) ∧ aw_P Ω b 19 = some (b + 10) ∧ aw_is Ω (b + 10) (.inr (1, 3)) ∧ aw_P Ω b 20 = some (b + 11) ∧ aw_is Ω (b + 11) (.inr (1, 6)) ∧ aw_P Ω b 21 = some (b + 12) ∧ aw_is Ω (b + 12) (.inr (0, 6)) ∧ aw_P Ω b 22 = some (b + 13) ∧ aw_is Ω (b + 13) (.inr (1, 6)) ∧ aw_P Ω b 23 = some (b + 14) ∧ aw_is Ω (b + 14) (.inr (0, 64)) ∧ aw_P Ω b 28 = some (b + 15) ∧ aw_is Ω (b + 15) (.inr (0, 12)) ∧ aw_P Ω b 30 = some (b + 16) ∧ aw_is Ω (b + 16) (.inr (0, 4)) ∧ aw_P Ω b 31 = some (b + 17) ∧ aw_is Ω (b + 17) (.inr (0, 4)) ∧ aw_P Ω b 32 = some (b + 18) ∧ aw_is Ω (b + 18) (.inr (1, 48))
theorem aw_model.o {Ω : aw_O} {b : Nat} (h : aw_model Ω b) : aw_is Ω b (.inl 7) := h.1
theorem aw_model.p1 {Ω : aw_O} {b : Nat} (h : aw_model Ω b) : aw_P Ω b 1 = some (b + 1) := h.2.1
theorem aw_model.s1 {Ω : aw_O} {b : Nat} (h : aw_model Ω b) : aw_is Ω (b + 1) (.inr (0, 9)) := h.2.2.1
theorem aw_model.p2 {Ω : aw_O} {b : Nat} (h : aw_model Ω b) : aw_P Ω b 2 = some (b + 2) := h.2.2.2.1
theorem aw_model.s2 {Ω : aw_O} {b : Nat} (h : aw_model Ω b) : aw_is Ω (b + 2) (.inr (0, 3)) := h.2.2.2.2.1
theorem aw_model.p5 {Ω : aw_O} {b : Nat} (h : aw_model Ω b) : aw_P Ω b 5 = some (b + 3) := h.2.2.2.2.2.1
theorem aw_model.s5 {Ω : aw_O} {b : Nat} (h : aw_model Ω b) : aw_is Ω (b + 3) (.inr (0, 36)) := h.2.2.2.2.2.2.1
theorem aw_model.p7 {Ω : aw_O} {b : Nat} (h : aw_model Ω b) : aw_P Ω b 7 = some (b + 4) := h.2.2.2.2.2.2.2.1
theorem aw_model.s7 {Ω : aw_O} {b : Nat} (h : aw_model Ω b) : aw_is Ω (b + 4) (.inr (0, 51)) := h.2.2.2.2.2.2.2.2.1
theorem aw_model.p10 {Ω : aw_O} {b : Nat} (h : aw_model Ω b) : aw_P Ω b 10 = some (b + 5) := h.2.2.2.2.2.2.2.2.2.1
theorem aw_model.s10 {Ω : aw_O} {b : Nat} (h : aw_model Ω b) : aw_is Ω (b + 5) (.inr (0, 8)) := h.2.2.2.2.2.2.2.2.2.2.1
theorem aw_model.p14 {Ω : aw_O} {b : Nat} (h : aw_model Ω b) : aw_P Ω b 14 = some (b + 6) := h.2.2.2.2.2.2.2.2.2.2.2.1
theorem aw_model.s14 {Ω : aw_O} {b : Nat} (h : aw_model Ω b) : aw_is Ω (b + 6) (.inr (1, 36)) := h.2.2.2.2.2.2.2.2.2.2.2.2.1
theorem aw_model.p15 {Ω : aw_O} {b : Nat} (h : aw_model Ω b) : aw_P Ω b 15 = some (b + 7) := h.2.2.2.2.2.2.2.2.2.2.2.2.2.1
theorem aw_model.s15 {Ω : aw_O} {b : Nat} (h : aw_model Ω b) : aw_is Ω (b + 7) (.inr (1, 64)) := h.2.2.2.2.2.2.2.2.2.2.2.2.2.2.1
theorem aw_model.p16 {Ω : aw_O} {b : Nat} (h : aw_model Ω b) : aw_P Ω b 16 = some (b + 8) := h.2.2.2.2.2.2.2.2.2.2.2.2.2.2.2.1
theorem aw_model.s16 {Ω : aw_O} {b : Nat} (h : aw_model Ω b) : aw_is Ω (b + 8) (.inr (1, 3)) := h.2.2.2.2.2.2.2.2.2.2.2.2.2.2.2.2.1
theorem aw_model.p17 {Ω : aw_O} {b : Nat} (h : aw_model Ω b) : aw_P Ω b 17 = some (b + 9) := h.2.2.2.2.2.2.2.2.2.2.2.2.2.2.2.2.2.1
theorem aw_model.s17 {Ω : aw_O} {b : Nat} (h : aw_model Ω b) : aw_is Ω (b + 9) (.inr (1, 6)) := h.2.2.2.2.2.2.2.2.2.2.2.2.2.2.2.2.2.2.1
theorem aw_model.p19 {Ω : aw_O} {b : Nat} (h : aw_model Ω b) : aw_P Ω b 19 = some (b + 10) := h.2.2.2.2.2.2.2.2.2.2.2.2.2.2.2.2.2.2.2.1
theorem aw_model.s19 {Ω : aw_O} {b : Nat} (h : aw_model Ω b) : aw_is Ω (b + 10) (.inr (1, 3)) := h.2.2.2.2.2.2.2.2.2.2.2.2.2.2.2.2.2.2.2.2.1
theorem aw_model.p20 {Ω : aw_O} {b : Nat} (h : aw_model Ω b) : aw_P Ω b 20 = some (b + 11) := h.2.2.2.2.2.2.2.2.2.2.2.2.2.2.2.2.2.2.2.2.2.1
theorem aw_model.s20 {Ω : aw_O} {b : Nat} (h : aw_model Ω b) : aw_is Ω (b + 11) (.inr (1, 6)) := h.2.2.2.2.2.2.2.2.2.2.2.2.2.2.2.2.2.2.2.2.2.2.1
theorem aw_model.p21 {Ω : aw_O} {b : Nat} (h : aw_model Ω b) : aw_P Ω b 21 = some (b + 12) := h.2.2.2.2.2.2.2.2.2.2.2.2.2.2.2.2.2.2.2.2.2.2.2.1
theorem aw_model.s21 {Ω : aw_O} {b : Nat} (h : aw_model Ω b) : aw_is Ω (b + 12) (.inr (0, 6)) := h.2.2.2.2.2.2.2.2.2.2.2.2.2.2.2.2.2.2.2.2.2.2.2.2.1
theorem aw_model.p22 {Ω : aw_O} {b : Nat} (h : aw_model Ω b) : aw_P Ω b 22 = some (b + 13) := h.2.2.2.2.2.2.2.2.2.2.2.2.2.2.2.2.2.2.2.2.2.2.2.2.2.1
theorem aw_model.s22 {Ω : aw_O} {b : Nat} (h : aw_model Ω b) : aw_is Ω (b + 13) (.inr (1, 6)) := h.2.2.2.2.2.2.2.2.2.2.2.2.2.2.2.2.2.2.2.2.2.2.2.2.2.2.1
theorem aw_model.p23 {Ω : aw_O} {b : Nat} (h : aw_model Ω b) : aw_P Ω b 23 = some (b + 14) := h.2.2.2.2.2.2.2.2.2.2.2.2.2.2.2.2.2.2.2.2.2.2.2.2.2.2.2.1
theorem aw_model.s23 {Ω : aw_O} {b : Nat} (h : aw_model Ω b) : aw_is Ω (b + 14) (.inr (0, 64)) := h.2.2.2.2.2.2.2.2.2.2.2.2.2.2.2.2.2.2.2.2.2.2.2.2.2.2.2.2.1
theorem aw_model.p28 {Ω : aw_O} {b : Nat} (h : aw_model Ω b) : aw_P Ω b 28 = some (b + 15) := h.2.2.2.2.2.2.2.2.2.2.2.2.2.2.2.2.2.2.2.2.2.2.2.2.2.2.2.2.2.1
theorem aw_model.s28 {Ω : aw_O} {b : Nat} (h : aw_model Ω b) : aw_is Ω (b + 15) (.inr (0, 12)) := h.2.2.2.2.2.2.2.2.2.2.2.2.2.2.2.2.2.2.2.2.2.2.2.2.2.2.2.2.2.2.1
theorem aw_model.p30 {Ω : aw_O} {b : Nat} (h : aw_model Ω b) : aw_P Ω b 30 = some (b + 16) := h.2.2.2.2.2.2.2.2.2.2.2.2.2.2.2.2.2.2.2.2.2.2.2.2.2.2.2.2.2.2.2.1
theorem aw_model.s30 {Ω : aw_O} {b : Nat} (h : aw_model Ω b) : aw_is Ω (b + 16) (.inr (0, 4)) := h.2.2.2.2.2.2.2.2.2.2.2.2.2.2.2.2.2.2.2.2.2.2.2.2.2.2.2.2.2.2.2.2.1
theorem aw_model.p31 {Ω : aw_O} {b : Nat} (h : aw_model Ω b) : aw_P Ω b 31 = some (b + 17) := h.2.2.2.2.2.2.2.2.2.2.2.2.2.2.2.2.2.2.2.2.2.2.2.2.2.2.2.2.2.2.2.2.2.1
theorem aw_model.s31 {Ω : aw_O} {b : Nat} (h : aw_model Ω b) : aw_is Ω (b + 17) (.inr (0, 4)) := h.2.2.2.2.2.2.2.2.2.2.2.2.2.2.2.2.2.2.2.2.2.2.2.2.2.2.2.2.2.2.2.2.2.2.1
theorem aw_model.p32 {Ω : aw_O} {b : Nat} (h : aw_model Ω b) : aw_P Ω b 32 = some (b + 18) := h.2.2.2.2.2.2.2.2.2.2.2.2.2.2.2.2.2.2.2.2.2.2.2.2.2.2.2.2.2.2.2.2.2.2.2.1
theorem aw_model.s32 {Ω : aw_O} {b : Nat} (h : aw_model Ω b) : aw_is Ω (b + 18) (.inr (1, 48)) := h.2.2.2.2.2.2.2.2.2.2.2.2.2.2.2.2.2.2.2.2.2.2.2.2.2.2.2.2.2.2.2.2.2.2.2.2

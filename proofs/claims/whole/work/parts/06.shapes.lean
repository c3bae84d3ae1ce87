def upq (f : Nat → Nat) (i q : Nat) : Nat → Nat := fun j => if j = i then q + 3 else f j
def tq_t : Nat → Nat := (upq (upq (upq (upq (upq (upq (fun _ => 1) 0 10) 1 13) 2 16) 3 19) 4 22) 5 25)
def tq_s : Nat → Nat := (upq (upq (upq (upq (fun _ => 1) 0 61) 1 63) 2 65) 3 67)
theorem tq_t_ok : ∀ j, j < 6 → tq_t j = 10 + 3 * j + 3 := by decide
theorem tq_s_ok : ∀ j, j < 4 → tq_s j = 61 + 2 * j + 3 := by decide
theorem tqt {i : Int32} (h : vp_in i 6) : tq_t i.toNatClampNeg = 10 + 3 * i.toNatClampNeg + 3 := tq_t_ok _ (Nat.lt_of_not_le (fun q => h (Or.inr q)))
theorem tqs {i : Int32} (h : vp_in i 4) : tq_s i.toNatClampNeg = 61 + 2 * i.toNatClampNeg + 3 := tq_s_ok _ (Nat.lt_of_not_le (fun q => h (Or.inr q)))
/-- the shape of every place behind both constructors -/
def shL : List sh_K := [.inr (.inr (7, [9, 4, 31, 37, 45, 53, 61, 63, 0])),
  .inr (.inr (2, [5, 0, 6, 7, 8, 0, 0, 2])),
  .inl (.int, 160),
  .inl (.int, 161),
  .inl (.int, 161),
  .inl (.int, 161),
  .inr (.inr (3, [10, 11, 12, 0])),
  .inr (.inl (RX5, 6, tq_t)),
  .inl (.int, 6),
  .inl (.int, 36),
  .inr (.inr (5, [14, 15, 0])),
  .inl (.int, 160),
  .inl (.int, 3),
  .inr (.inr (5, [17, 18, 0])),
  .inl (.int, 160),
  .inl (.int, 3),
  .inr (.inr (5, [20, 21, 0])),
  .inl (.int, 160),
  .inl (.int, 3),
  .inr (.inr (5, [23, 24, 0])),
  .inl (.int, 160),
  .inl (.int, 3),
  .inr (.inr (5, [26, 27, 0])),
  .inl (.int, 160),
  .inl (.int, 3),
  .inr (.inr (5, [29, 30, 0])),
  .inl (.int, 160),
  .inl (.int, 3),
  .inr (.inr (0, [9, 32, 33, 34, 35, 36])),
  .inl (.int, 5),
  .inl (.int, 5),
  .inl (.int, 5),
  .inl (.int, 5),
  .inl (.int, 5),
  .inr (.inr (1, [38, 39, 40, 41, 42, 43, 44, 0, 0, 0])),
  .inl (.int, 5),
  .inl (.int, 5),
  .inl (.int, 5),
  .inl (.int, 5),
  .inl (.int, 5),
  .inl (.int, 5),
  .inl (.int, 25),
  .inr (.inr (1, [46, 47, 48, 49, 50, 51, 52, 0, 0, 0])),
  .inl (.int, 5),
  .inl (.int, 5),
  .inl (.int, 5),
  .inl (.int, 5),
  .inl (.int, 5),
  .inl (.int, 5),
  .inl (.int, 25),
  .inr (.inr (1, [54, 55, 56, 57, 58, 59, 60, 0, 0, 0])),
  .inl (.int, 5),
  .inl (.int, 5),
  .inl (.int, 5),
  .inl (.int, 5),
  .inl (.int, 5),
  .inl (.int, 5),
  .inl (.int, 25),
  .inr (.inr (6, [62, 0, 0, 0])),
  .inl (.int, 25),
  .inr (.inl (RX4, 4, tq_s)),
  .inr (.inr (4, [65, 0, 0])),
  .inl (.int, 40),
  .inr (.inr (4, [67, 0, 0])),
  .inl (.int, 40),
  .inr (.inr (4, [69, 0, 0])),
  .inl (.int, 40),
  .inr (.inr (4, [71, 0, 0])),
  .inl (.int, 40),
  .inr (.inr (8, [73, 74, 75, 0, 76, 77, 0, 0, 0, 0, 0, 78, 79, 0, 0, 80, 81, 0, 82, 83, 84, 85, 86, 0, 0, 87, 88, 89, 90, 91, 92])),
  .inl (.int, 58),
  .inl (.int, 58),
  .inl (.int, 58),
  .inl (.int, 7),
  .inl (.int, 160),
  .inl (.int, 960),
  .inl (.int, 18),
  .inl (.char, 72),
  .inl (.int, 160),
  .inl (.int, 160),
  .inl (.int, 5),
  .inl (.int, 5),
  .inl (.int, 5),
  .inl (.int, 5),
  .inl (.int, 4),
  .inl (.int, 4),
  .inl (.int, 160),
  .inl (.int, 40),
  .inl (.int, 6),
  .inl (.boolean, 100)]
def shF (p : Nat) : sh_K := shL.getD p (.inl (.int, 0))
def nF : Nat := 90
/-- the reader, the rules and the texts stand in their places (also while the rest is being made) -/
def ShR (E : en_T) : Prop := en_I E ∧ 28 ≤ eN E ∧ ∀ p, 1 ≤ p → p < 28 → eH E p = shF p
def ShF (E : en_T) : Prop := en_I E ∧ eN E = nF ∧ ∀ p, p < nF → eH E p = shF p
theorem ShF.r {E : en_T} (h : ShF E) : ShR E := ⟨h.1, by rw [h.2.1]; decide, fun p _ h2 => h.2.2 p (Nat.lt_of_lt_of_le h2 (by decide))⟩
theorem sp0 {E : en_T} (h : ShF E) : Sp E 0 (.inr (.inr (7, [9, 4, 31, 37, 45, 53, 61, 63, 0]))) := ⟨by rw [h.2.1]; decide, (h.2.2 0 (by decide)).trans rfl⟩
theorem sp1 {E : en_T} (h : ShR E) : Sp E 1 (.inr (.inr (2, [5, 0, 6, 7, 8, 0, 0, 2]))) := ⟨Nat.lt_of_lt_of_le (by decide) h.2.1, (h.2.2 1 (by decide) (by decide)).trans rfl⟩
theorem sp2 {E : en_T} (h : ShR E) : Sp E 2 (.inl (.int, 160)) := ⟨Nat.lt_of_lt_of_le (by decide) h.2.1, (h.2.2 2 (by decide) (by decide)).trans rfl⟩
theorem sp3 {E : en_T} (h : ShR E) : Sp E 3 (.inl (.int, 161)) := ⟨Nat.lt_of_lt_of_le (by decide) h.2.1, (h.2.2 3 (by decide) (by decide)).trans rfl⟩
theorem sp4 {E : en_T} (h : ShR E) : Sp E 4 (.inl (.int, 161)) := ⟨Nat.lt_of_lt_of_le (by decide) h.2.1, (h.2.2 4 (by decide) (by decide)).trans rfl⟩
theorem sp5 {E : en_T} (h : ShR E) : Sp E 5 (.inl (.int, 161)) := ⟨Nat.lt_of_lt_of_le (by decide) h.2.1, (h.2.2 5 (by decide) (by decide)).trans rfl⟩
theorem sp6 {E : en_T} (h : ShR E) : Sp E 6 (.inr (.inr (3, [10, 11, 12, 0]))) := ⟨Nat.lt_of_lt_of_le (by decide) h.2.1, (h.2.2 6 (by decide) (by decide)).trans rfl⟩
theorem sp7 {E : en_T} (h : ShR E) : Sp E 7 (.inr (.inl (RX5, 6, tq_t))) := ⟨Nat.lt_of_lt_of_le (by decide) h.2.1, (h.2.2 7 (by decide) (by decide)).trans rfl⟩
theorem sp8 {E : en_T} (h : ShR E) : Sp E 8 (.inl (.int, 6)) := ⟨Nat.lt_of_lt_of_le (by decide) h.2.1, (h.2.2 8 (by decide) (by decide)).trans rfl⟩
theorem sp9 {E : en_T} (h : ShR E) : Sp E 9 (.inl (.int, 36)) := ⟨Nat.lt_of_lt_of_le (by decide) h.2.1, (h.2.2 9 (by decide) (by decide)).trans rfl⟩
theorem sp10 {E : en_T} (h : ShR E) : Sp E 10 (.inr (.inr (5, [14, 15, 0]))) := ⟨Nat.lt_of_lt_of_le (by decide) h.2.1, (h.2.2 10 (by decide) (by decide)).trans rfl⟩
theorem sp11 {E : en_T} (h : ShR E) : Sp E 11 (.inl (.int, 160)) := ⟨Nat.lt_of_lt_of_le (by decide) h.2.1, (h.2.2 11 (by decide) (by decide)).trans rfl⟩
theorem sp12 {E : en_T} (h : ShR E) : Sp E 12 (.inl (.int, 3)) := ⟨Nat.lt_of_lt_of_le (by decide) h.2.1, (h.2.2 12 (by decide) (by decide)).trans rfl⟩
theorem sp13 {E : en_T} (h : ShR E) : Sp E 13 (.inr (.inr (5, [17, 18, 0]))) := ⟨Nat.lt_of_lt_of_le (by decide) h.2.1, (h.2.2 13 (by decide) (by decide)).trans rfl⟩
theorem sp14 {E : en_T} (h : ShR E) : Sp E 14 (.inl (.int, 160)) := ⟨Nat.lt_of_lt_of_le (by decide) h.2.1, (h.2.2 14 (by decide) (by decide)).trans rfl⟩
theorem sp15 {E : en_T} (h : ShR E) : Sp E 15 (.inl (.int, 3)) := ⟨Nat.lt_of_lt_of_le (by decide) h.2.1, (h.2.2 15 (by decide) (by decide)).trans rfl⟩
theorem sp16 {E : en_T} (h : ShR E) : Sp E 16 (.inr (.inr (5, [20, 21, 0]))) := ⟨Nat.lt_of_lt_of_le (by decide) h.2.1, (h.2.2 16 (by decide) (by decide)).trans rfl⟩
theorem sp17 {E : en_T} (h : ShR E) : Sp E 17 (.inl (.int, 160)) := ⟨Nat.lt_of_lt_of_le (by decide) h.2.1, (h.2.2 17 (by decide) (by decide)).trans rfl⟩
theorem sp18 {E : en_T} (h : ShR E) : Sp E 18 (.inl (.int, 3)) := ⟨Nat.lt_of_lt_of_le (by decide) h.2.1, (h.2.2 18 (by decide) (by decide)).trans rfl⟩
theorem sp19 {E : en_T} (h : ShR E) : Sp E 19 (.inr (.inr (5, [23, 24, 0]))) := ⟨Nat.lt_of_lt_of_le (by decide) h.2.1, (h.2.2 19 (by decide) (by decide)).trans rfl⟩
theorem sp20 {E : en_T} (h : ShR E) : Sp E 20 (.inl (.int, 160)) := ⟨Nat.lt_of_lt_of_le (by decide) h.2.1, (h.2.2 20 (by decide) (by decide)).trans rfl⟩
theorem sp21 {E : en_T} (h : ShR E) : Sp E 21 (.inl (.int, 3)) := ⟨Nat.lt_of_lt_of_le (by decide) h.2.1, (h.2.2 21 (by decide) (by decide)).trans rfl⟩
theorem sp22 {E : en_T} (h : ShR E) : Sp E 22 (.inr (.inr (5, [26, 27, 0]))) := ⟨Nat.lt_of_lt_of_le (by decide) h.2.1, (h.2.2 22 (by decide) (by decide)).trans rfl⟩
theorem sp23 {E : en_T} (h : ShR E) : Sp E 23 (.inl (.int, 160)) := ⟨Nat.lt_of_lt_of_le (by decide) h.2.1, (h.2.2 23 (by decide) (by decide)).trans rfl⟩
theorem sp24 {E : en_T} (h : ShR E) : Sp E 24 (.inl (.int, 3)) := ⟨Nat.lt_of_lt_of_le (by decide) h.2.1, (h.2.2 24 (by decide) (by decide)).trans rfl⟩
theorem sp25 {E : en_T} (h : ShR E) : Sp E 25 (.inr (.inr (5, [29, 30, 0]))) := ⟨Nat.lt_of_lt_of_le (by decide) h.2.1, (h.2.2 25 (by decide) (by decide)).trans rfl⟩
theorem sp26 {E : en_T} (h : ShR E) : Sp E 26 (.inl (.int, 160)) := ⟨Nat.lt_of_lt_of_le (by decide) h.2.1, (h.2.2 26 (by decide) (by decide)).trans rfl⟩
theorem sp27 {E : en_T} (h : ShR E) : Sp E 27 (.inl (.int, 3)) := ⟨Nat.lt_of_lt_of_le (by decide) h.2.1, (h.2.2 27 (by decide) (by decide)).trans rfl⟩
theorem sp28 {E : en_T} (h : ShF E) : Sp E 28 (.inr (.inr (0, [9, 32, 33, 34, 35, 36]))) := ⟨by rw [h.2.1]; decide, (h.2.2 28 (by decide)).trans rfl⟩
theorem sp29 {E : en_T} (h : ShF E) : Sp E 29 (.inl (.int, 5)) := ⟨by rw [h.2.1]; decide, (h.2.2 29 (by decide)).trans rfl⟩
theorem sp30 {E : en_T} (h : ShF E) : Sp E 30 (.inl (.int, 5)) := ⟨by rw [h.2.1]; decide, (h.2.2 30 (by decide)).trans rfl⟩
theorem sp31 {E : en_T} (h : ShF E) : Sp E 31 (.inl (.int, 5)) := ⟨by rw [h.2.1]; decide, (h.2.2 31 (by decide)).trans rfl⟩
theorem sp32 {E : en_T} (h : ShF E) : Sp E 32 (.inl (.int, 5)) := ⟨by rw [h.2.1]; decide, (h.2.2 32 (by decide)).trans rfl⟩
theorem sp33 {E : en_T} (h : ShF E) : Sp E 33 (.inl (.int, 5)) := ⟨by rw [h.2.1]; decide, (h.2.2 33 (by decide)).trans rfl⟩
theorem sp34 {E : en_T} (h : ShF E) : Sp E 34 (.inr (.inr (1, [38, 39, 40, 41, 42, 43, 44, 0, 0, 0]))) := ⟨by rw [h.2.1]; decide, (h.2.2 34 (by decide)).trans rfl⟩
theorem sp35 {E : en_T} (h : ShF E) : Sp E 35 (.inl (.int, 5)) := ⟨by rw [h.2.1]; decide, (h.2.2 35 (by decide)).trans rfl⟩
theorem sp36 {E : en_T} (h : ShF E) : Sp E 36 (.inl (.int, 5)) := ⟨by rw [h.2.1]; decide, (h.2.2 36 (by decide)).trans rfl⟩
theorem sp37 {E : en_T} (h : ShF E) : Sp E 37 (.inl (.int, 5)) := ⟨by rw [h.2.1]; decide, (h.2.2 37 (by decide)).trans rfl⟩
theorem sp38 {E : en_T} (h : ShF E) : Sp E 38 (.inl (.int, 5)) := ⟨by rw [h.2.1]; decide, (h.2.2 38 (by decide)).trans rfl⟩
theorem sp39 {E : en_T} (h : ShF E) : Sp E 39 (.inl (.int, 5)) := ⟨by rw [h.2.1]; decide, (h.2.2 39 (by decide)).trans rfl⟩
theorem sp40 {E : en_T} (h : ShF E) : Sp E 40 (.inl (.int, 5)) := ⟨by rw [h.2.1]; decide, (h.2.2 40 (by decide)).trans rfl⟩
theorem sp41 {E : en_T} (h : ShF E) : Sp E 41 (.inl (.int, 25)) := ⟨by rw [h.2.1]; decide, (h.2.2 41 (by decide)).trans rfl⟩
theorem sp42 {E : en_T} (h : ShF E) : Sp E 42 (.inr (.inr (1, [46, 47, 48, 49, 50, 51, 52, 0, 0, 0]))) := ⟨by rw [h.2.1]; decide, (h.2.2 42 (by decide)).trans rfl⟩
theorem sp43 {E : en_T} (h : ShF E) : Sp E 43 (.inl (.int, 5)) := ⟨by rw [h.2.1]; decide, (h.2.2 43 (by decide)).trans rfl⟩
theorem sp44 {E : en_T} (h : ShF E) : Sp E 44 (.inl (.int, 5)) := ⟨by rw [h.2.1]; decide, (h.2.2 44 (by decide)).trans rfl⟩
theorem sp45 {E : en_T} (h : ShF E) : Sp E 45 (.inl (.int, 5)) := ⟨by rw [h.2.1]; decide, (h.2.2 45 (by decide)).trans rfl⟩
theorem sp46 {E : en_T} (h : ShF E) : Sp E 46 (.inl (.int, 5)) := ⟨by rw [h.2.1]; decide, (h.2.2 46 (by decide)).trans rfl⟩
theorem sp47 {E : en_T} (h : ShF E) : Sp E 47 (.inl (.int, 5)) := ⟨by rw [h.2.1]; decide, (h.2.2 47 (by decide)).trans rfl⟩
theorem sp48 {E : en_T} (h : ShF E) : Sp E 48 (.inl (.int, 5)) := ⟨by rw [h.2.1]; decide, (h.2.2 48 (by decide)).trans rfl⟩
theorem sp49 {E : en_T} (h : ShF E) : Sp E 49 (.inl (.int, 25)) := ⟨by rw [h.2.1]; decide, (h.2.2 49 (by decide)).trans rfl⟩
theorem sp50 {E : en_T} (h : ShF E) : Sp E 50 (.inr (.inr (1, [54, 55, 56, 57, 58, 59, 60, 0, 0, 0]))) := ⟨by rw [h.2.1]; decide, (h.2.2 50 (by decide)).trans rfl⟩
theorem sp51 {E : en_T} (h : ShF E) : Sp E 51 (.inl (.int, 5)) := ⟨by rw [h.2.1]; decide, (h.2.2 51 (by decide)).trans rfl⟩
theorem sp52 {E : en_T} (h : ShF E) : Sp E 52 (.inl (.int, 5)) := ⟨by rw [h.2.1]; decide, (h.2.2 52 (by decide)).trans rfl⟩
theorem sp53 {E : en_T} (h : ShF E) : Sp E 53 (.inl (.int, 5)) := ⟨by rw [h.2.1]; decide, (h.2.2 53 (by decide)).trans rfl⟩
theorem sp54 {E : en_T} (h : ShF E) : Sp E 54 (.inl (.int, 5)) := ⟨by rw [h.2.1]; decide, (h.2.2 54 (by decide)).trans rfl⟩
theorem sp55 {E : en_T} (h : ShF E) : Sp E 55 (.inl (.int, 5)) := ⟨by rw [h.2.1]; decide, (h.2.2 55 (by decide)).trans rfl⟩
theorem sp56 {E : en_T} (h : ShF E) : Sp E 56 (.inl (.int, 5)) := ⟨by rw [h.2.1]; decide, (h.2.2 56 (by decide)).trans rfl⟩
theorem sp57 {E : en_T} (h : ShF E) : Sp E 57 (.inl (.int, 25)) := ⟨by rw [h.2.1]; decide, (h.2.2 57 (by decide)).trans rfl⟩
theorem sp58 {E : en_T} (h : ShF E) : Sp E 58 (.inr (.inr (6, [62, 0, 0, 0]))) := ⟨by rw [h.2.1]; decide, (h.2.2 58 (by decide)).trans rfl⟩
theorem sp59 {E : en_T} (h : ShF E) : Sp E 59 (.inl (.int, 25)) := ⟨by rw [h.2.1]; decide, (h.2.2 59 (by decide)).trans rfl⟩
theorem sp60 {E : en_T} (h : ShF E) : Sp E 60 (.inr (.inl (RX4, 4, tq_s))) := ⟨by rw [h.2.1]; decide, (h.2.2 60 (by decide)).trans rfl⟩
theorem sp61 {E : en_T} (h : ShF E) : Sp E 61 (.inr (.inr (4, [65, 0, 0]))) := ⟨by rw [h.2.1]; decide, (h.2.2 61 (by decide)).trans rfl⟩
theorem sp62 {E : en_T} (h : ShF E) : Sp E 62 (.inl (.int, 40)) := ⟨by rw [h.2.1]; decide, (h.2.2 62 (by decide)).trans rfl⟩
theorem sp63 {E : en_T} (h : ShF E) : Sp E 63 (.inr (.inr (4, [67, 0, 0]))) := ⟨by rw [h.2.1]; decide, (h.2.2 63 (by decide)).trans rfl⟩
theorem sp64 {E : en_T} (h : ShF E) : Sp E 64 (.inl (.int, 40)) := ⟨by rw [h.2.1]; decide, (h.2.2 64 (by decide)).trans rfl⟩
theorem sp65 {E : en_T} (h : ShF E) : Sp E 65 (.inr (.inr (4, [69, 0, 0]))) := ⟨by rw [h.2.1]; decide, (h.2.2 65 (by decide)).trans rfl⟩
theorem sp66 {E : en_T} (h : ShF E) : Sp E 66 (.inl (.int, 40)) := ⟨by rw [h.2.1]; decide, (h.2.2 66 (by decide)).trans rfl⟩
theorem sp67 {E : en_T} (h : ShF E) : Sp E 67 (.inr (.inr (4, [71, 0, 0]))) := ⟨by rw [h.2.1]; decide, (h.2.2 67 (by decide)).trans rfl⟩
theorem sp68 {E : en_T} (h : ShF E) : Sp E 68 (.inl (.int, 40)) := ⟨by rw [h.2.1]; decide, (h.2.2 68 (by decide)).trans rfl⟩
theorem sp69 {E : en_T} (h : ShF E) : Sp E 69 (.inr (.inr (8, [73, 74, 75, 0, 76, 77, 0, 0, 0, 0, 0, 78, 79, 0, 0, 80, 81, 0, 82, 83, 84, 85, 86, 0, 0, 87, 88, 89, 90, 91, 92]))) := ⟨by rw [h.2.1]; decide, (h.2.2 69 (by decide)).trans rfl⟩
theorem sp70 {E : en_T} (h : ShF E) : Sp E 70 (.inl (.int, 58)) := ⟨by rw [h.2.1]; decide, (h.2.2 70 (by decide)).trans rfl⟩
theorem sp71 {E : en_T} (h : ShF E) : Sp E 71 (.inl (.int, 58)) := ⟨by rw [h.2.1]; decide, (h.2.2 71 (by decide)).trans rfl⟩
theorem sp72 {E : en_T} (h : ShF E) : Sp E 72 (.inl (.int, 58)) := ⟨by rw [h.2.1]; decide, (h.2.2 72 (by decide)).trans rfl⟩
theorem sp73 {E : en_T} (h : ShF E) : Sp E 73 (.inl (.int, 7)) := ⟨by rw [h.2.1]; decide, (h.2.2 73 (by decide)).trans rfl⟩
theorem sp74 {E : en_T} (h : ShF E) : Sp E 74 (.inl (.int, 160)) := ⟨by rw [h.2.1]; decide, (h.2.2 74 (by decide)).trans rfl⟩
theorem sp75 {E : en_T} (h : ShF E) : Sp E 75 (.inl (.int, 960)) := ⟨by rw [h.2.1]; decide, (h.2.2 75 (by decide)).trans rfl⟩
theorem sp76 {E : en_T} (h : ShF E) : Sp E 76 (.inl (.int, 18)) := ⟨by rw [h.2.1]; decide, (h.2.2 76 (by decide)).trans rfl⟩
theorem sp77 {E : en_T} (h : ShF E) : Sp E 77 (.inl (.char, 72)) := ⟨by rw [h.2.1]; decide, (h.2.2 77 (by decide)).trans rfl⟩
theorem sp78 {E : en_T} (h : ShF E) : Sp E 78 (.inl (.int, 160)) := ⟨by rw [h.2.1]; decide, (h.2.2 78 (by decide)).trans rfl⟩
theorem sp79 {E : en_T} (h : ShF E) : Sp E 79 (.inl (.int, 160)) := ⟨by rw [h.2.1]; decide, (h.2.2 79 (by decide)).trans rfl⟩
theorem sp80 {E : en_T} (h : ShF E) : Sp E 80 (.inl (.int, 5)) := ⟨by rw [h.2.1]; decide, (h.2.2 80 (by decide)).trans rfl⟩
theorem sp81 {E : en_T} (h : ShF E) : Sp E 81 (.inl (.int, 5)) := ⟨by rw [h.2.1]; decide, (h.2.2 81 (by decide)).trans rfl⟩
theorem sp82 {E : en_T} (h : ShF E) : Sp E 82 (.inl (.int, 5)) := ⟨by rw [h.2.1]; decide, (h.2.2 82 (by decide)).trans rfl⟩
theorem sp83 {E : en_T} (h : ShF E) : Sp E 83 (.inl (.int, 5)) := ⟨by rw [h.2.1]; decide, (h.2.2 83 (by decide)).trans rfl⟩
theorem sp84 {E : en_T} (h : ShF E) : Sp E 84 (.inl (.int, 4)) := ⟨by rw [h.2.1]; decide, (h.2.2 84 (by decide)).trans rfl⟩
theorem sp85 {E : en_T} (h : ShF E) : Sp E 85 (.inl (.int, 4)) := ⟨by rw [h.2.1]; decide, (h.2.2 85 (by decide)).trans rfl⟩
theorem sp86 {E : en_T} (h : ShF E) : Sp E 86 (.inl (.int, 160)) := ⟨by rw [h.2.1]; decide, (h.2.2 86 (by decide)).trans rfl⟩
theorem sp87 {E : en_T} (h : ShF E) : Sp E 87 (.inl (.int, 40)) := ⟨by rw [h.2.1]; decide, (h.2.2 87 (by decide)).trans rfl⟩
theorem sp88 {E : en_T} (h : ShF E) : Sp E 88 (.inl (.int, 6)) := ⟨by rw [h.2.1]; decide, (h.2.2 88 (by decide)).trans rfl⟩
theorem sp89 {E : en_T} (h : ShF E) : Sp E 89 (.inl (.boolean, 100)) := ⟨by rw [h.2.1]; decide, (h.2.2 89 (by decide)).trans rfl⟩
def isP (o : Nat) : Prop := o = 34 ∨ o = 42 ∨ o = 50
def isT (o : Nat) : Prop := o = 10 ∨ o = 13 ∨ o = 16 ∨ o = 19 ∨ o = 22 ∨ o = 25
def isS (o : Nat) : Prop := o = 61 ∨ o = 63 ∨ o = 65 ∨ o = 67
def isW (o : Nat) : Prop := o = 71 ∨ o = 72
theorem spP0 {E : en_T} {o : Nat} (h : ShF E) (ho : isP o) : Sp E (o) (.inr (.inr (1, [o + 1 + 3, o + 2 + 3, o + 3 + 3, o + 4 + 3, o + 5 + 3, o + 6 + 3, o + 7 + 3, 0, 0, 0]))) := by
  rcases ho with rfl | rfl | rfl
  · exact sp34 h
  · exact sp42 h
  · exact sp50 h
theorem spP1 {E : en_T} {o : Nat} (h : ShF E) (ho : isP o) : Sp E (o + 1) (.inl (.int, 5)) := by
  rcases ho with rfl | rfl | rfl
  · exact sp35 h
  · exact sp43 h
  · exact sp51 h
theorem spP2 {E : en_T} {o : Nat} (h : ShF E) (ho : isP o) : Sp E (o + 2) (.inl (.int, 5)) := by
  rcases ho with rfl | rfl | rfl
  · exact sp36 h
  · exact sp44 h
  · exact sp52 h
theorem spP3 {E : en_T} {o : Nat} (h : ShF E) (ho : isP o) : Sp E (o + 3) (.inl (.int, 5)) := by
  rcases ho with rfl | rfl | rfl
  · exact sp37 h
  · exact sp45 h
  · exact sp53 h
theorem spP4 {E : en_T} {o : Nat} (h : ShF E) (ho : isP o) : Sp E (o + 4) (.inl (.int, 5)) := by
  rcases ho with rfl | rfl | rfl
  · exact sp38 h
  · exact sp46 h
  · exact sp54 h
theorem spP5 {E : en_T} {o : Nat} (h : ShF E) (ho : isP o) : Sp E (o + 5) (.inl (.int, 5)) := by
  rcases ho with rfl | rfl | rfl
  · exact sp39 h
  · exact sp47 h
  · exact sp55 h
theorem spP6 {E : en_T} {o : Nat} (h : ShF E) (ho : isP o) : Sp E (o + 6) (.inl (.int, 5)) := by
  rcases ho with rfl | rfl | rfl
  · exact sp40 h
  · exact sp48 h
  · exact sp56 h
theorem spP7 {E : en_T} {o : Nat} (h : ShF E) (ho : isP o) : Sp E (o + 7) (.inl (.int, 25)) := by
  rcases ho with rfl | rfl | rfl
  · exact sp41 h
  · exact sp49 h
  · exact sp57 h
theorem spT0 {E : en_T} {o : Nat} (h : ShR E) (ho : isT o) : Sp E (o) (.inr (.inr (5, [o + 1 + 3, o + 2 + 3, 0]))) := by
  rcases ho with rfl | rfl | rfl | rfl | rfl | rfl
  · exact sp10 h
  · exact sp13 h
  · exact sp16 h
  · exact sp19 h
  · exact sp22 h
  · exact sp25 h
theorem spT1 {E : en_T} {o : Nat} (h : ShR E) (ho : isT o) : Sp E (o + 1) (.inl (.int, 160)) := by
  rcases ho with rfl | rfl | rfl | rfl | rfl | rfl
  · exact sp11 h
  · exact sp14 h
  · exact sp17 h
  · exact sp20 h
  · exact sp23 h
  · exact sp26 h
theorem spT2 {E : en_T} {o : Nat} (h : ShR E) (ho : isT o) : Sp E (o + 2) (.inl (.int, 3)) := by
  rcases ho with rfl | rfl | rfl | rfl | rfl | rfl
  · exact sp12 h
  · exact sp15 h
  · exact sp18 h
  · exact sp21 h
  · exact sp24 h
  · exact sp27 h
theorem spS0 {E : en_T} {o : Nat} (h : ShF E) (ho : isS o) : Sp E (o) (.inr (.inr (4, [o + 1 + 3, 0, 0]))) := by
  rcases ho with rfl | rfl | rfl | rfl
  · exact sp61 h
  · exact sp63 h
  · exact sp65 h
  · exact sp67 h
theorem spS1 {E : en_T} {o : Nat} (h : ShF E) (ho : isS o) : Sp E (o + 1) (.inl (.int, 40)) := by
  rcases ho with rfl | rfl | rfl | rfl
  · exact sp62 h
  · exact sp64 h
  · exact sp66 h
  · exact sp68 h
theorem spW {E : en_T} {o : Nat} (h : ShF E) (ho : isW o) : Sp E o (.inl (.int, 58)) := by
  rcases ho with rfl | rfl
  · exact sp71 h
  · exact sp72 h
theorem isT_of {i : Int32} (h : vp_in i 6) : isT (10 + 3 * i.toNatClampNeg) := by
  have h2 : i.toNatClampNeg < 6 := Nat.lt_of_not_le (fun q => h (Or.inr q))
  unfold isT; omega
theorem isS_of {i : Int32} (h : vp_in i 4) : isS (61 + 2 * i.toNatClampNeg) := by
  have h2 : i.toNatClampNeg < 4 := Nat.lt_of_not_le (fun q => h (Or.inr q))
  unfold isS; omega
def cT {β : Type} (x : Int32) (r : Option β) : Option β := if (x = 10 ∨ x = 13 ∨ x = 16 ∨ x = 19 ∨ x = 22 ∨ x = 25) then r else none
theorem b_cT {β : Type} {x : Int32} {r : Option β} {out : β} (h : cT x r = some out) : isT x.toNatClampNeg ∧ (¬ x < 0) ∧ r = some out := by
  unfold cT at h
  by_cases q : (x = 10 ∨ x = 13 ∨ x = 16 ∨ x = 19 ∨ x = 22 ∨ x = 25)
  · rw [if_pos q] at h
    refine ⟨?_, ?_, h⟩
    · unfold isT
      rcases q with rfl | rfl | rfl | rfl | rfl | rfl <;> decide +kernel
    · rcases q with rfl | rfl | rfl | rfl | rfl | rfl <;> decide +kernel
  · rw [if_neg q] at h; cases h
theorem fv_into {ad : Nat → Nat} {t : Nat} (h : isT t) : fv ad 2 (nI t) = .ref (ad t) := by
  have hb : t < 2 ^ 31 := by rcases h with rfl | rfl | rfl | rfl | rfl | rfl <;> decide
  show (if nI t < 0 then Value.null else Value.ref (ad (nI t).toNatClampNeg)) = _
  rw [if_neg (nI_pos hb), nI_clamp hb]
theorem fv_dyn {ad : Nat → Nat} {x : Int32} (h : ¬ x < 0) : fv ad 2 x = .ref (ad x.toNatClampNeg) := by
  show (if x < 0 then Value.null else Value.ref (ad x.toNatClampNeg)) = _
  rw [if_neg h]
/-- the reference while it is being made, as its firstText meets it -/
def ShM (E : en_T) : Prop := en_I E ∧ Sp E 69 (.inr (.inr (8, [73, 74, 75, 0, 76, 77, 0, 0, 0, 0, 0, 78, 79, 0, 0, 1, 1, 0, 1, 1, 1, 1, 1, 0, 0, 1, 1, 1, 1, 1, 1]))) ∧ Sp E 75 (.inl (.int, 960)) ∧ Sp E 76 (.inl (.int, 18))

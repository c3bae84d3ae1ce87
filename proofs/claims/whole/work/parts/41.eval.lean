/-! What a text tells: a row of signs, told from the left on a stack. The signs are the reference's. -/
def dd (c x y : Int32) : Int32 := if c = (-20) then (if x = 0 then (if y = 0 then 0 else 1) else 1) else if c = (-21) then (if x = 0 then 0 else (if y = 0 then 0 else 1)) else if c = (-23) then (if y ≤ x then 0 else 1) else if c = (-24) then (if x = y then 1 else 0) else if c = (-25) then x + y else if c = (-26) then x - y else x * y
def est (nm : Nat → Int32) (c : Int32) (st : List Int32) : List Int32 :=
  if 0 ≤ c then c :: st
  else if -20 < c then nm (-10 - c).toNatClampNeg :: st
  else if c = -22 then (match st with
    | [] => []
    | x :: s => (if x = 0 then 1 else 0) :: s)
  else if c = -28 then (match st with
    | [] => []
    | x :: s => (-x) :: s)
  else (match st with
    | y :: x :: s => dd c x y :: s
    | s => s)
def evc (nm : Nat → Int32) : List Int32 → List Int32 → List Int32
  | [], st => st
  | c :: cs, st => evc nm cs (est nm c st)
/-- how high the stack is; none: too high, or nothing there -/
def dpt : List Int32 → Nat → Option Nat
  | [], d => some d
  | c :: cs, d => if -20 < c then (if d < 36 then dpt cs (d + 1) else none) else if c = -22 ∨ c = -28 then (if 0 < d then dpt cs d else none) else (if 1 < d then dpt cs (d - 1) else none)
def vcd (c : Int32) : Prop := 0 ≤ c ∨ c = -10 ∨ c = -11 ∨ c = -12 ∨ c = -13 ∨ c = -14 ∨ c = -15 ∨ c = -20 ∨ c = -21 ∨ c = -22 ∨ c = -23 ∨ c = -24 ∨ c = -25 ∨ c = -26 ∨ c = -27 ∨ c = -28
/-- a sign as the class writes it -/
def toC (c : Int32) : Int32 := if 0 ≤ c then c else if -20 < c then c + 9 else if c = -20 then -10 else if c = -21 then -11 else if c = -22 then -12 else if c = -23 then -61 else if c = -24 then -62 else if c = -25 then -44 else if c = -26 then -46 else if c = -27 then -43 else -21
def SR (f : Nat → Int32) (st : List Int32) : Prop := ∀ k, k < st.length → f k = st.getD (st.length - 1 - k) 0
theorem SR.push {f : Nat → Int32} {st : List Int32} (h : SR f st) (x : Int32) : SR (upd f st.length x) (x :: st) := by
  intro k hk
  simp only [List.length_cons] at hk ⊢
  by_cases he : k = st.length
  · subst he; simp [upd]
  · have hlt : k < st.length := by omega
    have e1 : st.length + 1 - 1 - k = (st.length - 1 - k) + 1 := by omega
    rw [e1, List.getD_cons_succ, ← h k hlt]
    simp [upd, he]
theorem SR.top {f : Nat → Int32} {x : Int32} {s : List Int32} (h : SR f (x :: s)) : f s.length = x := by
  have := h s.length (by simp)
  simpa using this
theorem SR.tail {f : Nat → Int32} {x : Int32} {s : List Int32} (h : SR f (x :: s)) : SR f s := by
  intro k hk
  have := h k (by simp; omega)
  have e1 : (x :: s).length - 1 - k = (s.length - 1 - k) + 1 := by simp; omega
  rw [e1, List.getD_cons_succ] at this
  exact this
theorem SR.put {f : Nat → Int32} {x : Int32} {s : List Int32} (h : SR f (x :: s)) (y : Int32) : SR (upd f s.length y) (y :: s) := h.tail.push y
theorem up_row {σ : sg_T} {p j : Nat} {x : Int32} : (up σ p j x) p = upd (σ p) j x := up_s
theorem join_20 (x y : Int32) (σ : sg_T) : f_X5_join ((-10) ^^^ (-1)) x y σ = some (dd (-20) x y) := by
  rw [show (((-10) : Int32) ^^^ (-1)) = 9 from by decide]
  simp (decide := true) [f_X5_join, dd, bnd_s]
  try (split <;> simp_all)
theorem deed_20 (x y : Int32) (σ : sg_T) : f_X8_deed (-20) x y σ = some (dd (-20) x y) := by
  simp (decide := true) [f_X8_deed, f_X8_yes, dd, bnd_s, bd1_s]
  try (repeat' split) <;> simp_all
theorem join_21 (x y : Int32) (σ : sg_T) : f_X5_join ((-11) ^^^ (-1)) x y σ = some (dd (-21) x y) := by
  rw [show (((-11) : Int32) ^^^ (-1)) = 10 from by decide]
  simp (decide := true) [f_X5_join, dd, bnd_s]
  try (split <;> simp_all)
theorem deed_21 (x y : Int32) (σ : sg_T) : f_X8_deed (-21) x y σ = some (dd (-21) x y) := by
  simp (decide := true) [f_X8_deed, f_X8_yes, dd, bnd_s, bd1_s]
  try (repeat' split) <;> simp_all
theorem join_23 (x y : Int32) (σ : sg_T) : f_X5_join ((-61) ^^^ (-1)) x y σ = some (dd (-23) x y) := by
  rw [show (((-61) : Int32) ^^^ (-1)) = 60 from by decide]
  simp (decide := true) [f_X5_join, dd, bnd_s]
  try (split <;> simp_all)
theorem deed_23 (x y : Int32) (σ : sg_T) : f_X8_deed (-23) x y σ = some (dd (-23) x y) := by
  simp (decide := true) [f_X8_deed, f_X8_yes, dd, bnd_s, bd1_s]
  try (repeat' split) <;> simp_all
theorem join_24 (x y : Int32) (σ : sg_T) : f_X5_join ((-62) ^^^ (-1)) x y σ = some (dd (-24) x y) := by
  rw [show (((-62) : Int32) ^^^ (-1)) = 61 from by decide]
  simp (decide := true) [f_X5_join, dd, bnd_s]
  try (split <;> simp_all)
theorem deed_24 (x y : Int32) (σ : sg_T) : f_X8_deed (-24) x y σ = some (dd (-24) x y) := by
  simp (decide := true) [f_X8_deed, f_X8_yes, dd, bnd_s, bd1_s]
  try (repeat' split) <;> simp_all
theorem join_25 (x y : Int32) (σ : sg_T) : f_X5_join ((-44) ^^^ (-1)) x y σ = some (dd (-25) x y) := by
  rw [show (((-44) : Int32) ^^^ (-1)) = 43 from by decide]
  simp (decide := true) [f_X5_join, dd, bnd_s]
  try (split <;> simp_all)
theorem deed_25 (x y : Int32) (σ : sg_T) : f_X8_deed (-25) x y σ = some (dd (-25) x y) := by
  simp (decide := true) [f_X8_deed, f_X8_yes, dd, bnd_s, bd1_s]
  try (repeat' split) <;> simp_all
theorem join_26 (x y : Int32) (σ : sg_T) : f_X5_join ((-46) ^^^ (-1)) x y σ = some (dd (-26) x y) := by
  rw [show (((-46) : Int32) ^^^ (-1)) = 45 from by decide]
  simp (decide := true) [f_X5_join, dd, bnd_s]
  try (split <;> simp_all)
theorem deed_26 (x y : Int32) (σ : sg_T) : f_X8_deed (-26) x y σ = some (dd (-26) x y) := by
  simp (decide := true) [f_X8_deed, f_X8_yes, dd, bnd_s, bd1_s]
  try (repeat' split) <;> simp_all
theorem join_27 (x y : Int32) (σ : sg_T) : f_X5_join ((-43) ^^^ (-1)) x y σ = some (dd (-27) x y) := by
  rw [show (((-43) : Int32) ^^^ (-1)) = 42 from by decide]
  simp (decide := true) [f_X5_join, dd, bnd_s]
  try (split <;> simp_all)
theorem deed_27 (x y : Int32) (σ : sg_T) : f_X8_deed (-27) x y σ = some (dd (-27) x y) := by
  simp (decide := true) [f_X8_deed, f_X8_yes, dd, bnd_s, bd1_s]
  try (repeat' split) <;> simp_all

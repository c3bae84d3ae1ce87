/-! The pieces of which the methods' functions are made: each says what its being 'some' means. -/
def bnd {α β : Type} (a : α) (f : α → β) : β := f a
theorem b_bnd {α β : Type} {a : α} {k : α → Option β} {out : β} (h : bnd a k = some out) : ∃ y, y = a ∧ k y = some out := ⟨a, rfl, h⟩
def ck {β : Type} (i : Int32) (n : Nat) (r : Option β) : Option β := if (i < 0 ∨ n ≤ i.toNatClampNeg) then none else r
theorem b_ck {β : Type} {i : Int32} {n : Nat} {r : Option β} {out : β} (h : ck i n r = some out) : vp_in i n ∧ r = some out := by
  unfold ck at h
  by_cases q : (i < 0 ∨ n ≤ i.toNatClampNeg)
  · rw [if_pos q] at h; cases h
  · rw [if_neg q] at h; exact ⟨q, h⟩
theorem ck_of {β : Type} {i : Int32} {n : Nat} {r : Option β} (h : vp_in i n) : ck i n r = r := if_neg h
def dz {β : Type} (i : Int32) (r : Option β) : Option β := if i = 0 then none else r
theorem b_dz {β : Type} {i : Int32} {r : Option β} {out : β} (h : dz i r = some out) : (¬ i = 0) ∧ r = some out := by
  unfold dz at h
  by_cases q : i = 0
  · rw [if_pos q] at h; cases h
  · rw [if_neg q] at h; exact ⟨q, h⟩
theorem dz_of {β : Type} {i : Int32} {r : Option β} (h : ¬ i = 0) : dz i r = r := if_neg h
def dzl {β : Type} (i : Int64) (r : Option β) : Option β := if i = 0 then none else r
theorem b_dzl {β : Type} {i : Int64} {r : Option β} {out : β} (h : dzl i r = some out) : (¬ i = 0) ∧ r = some out := by
  unfold dzl at h
  by_cases q : i = 0
  · rw [if_pos q] at h; cases h
  · rw [if_neg q] at h; exact ⟨q, h⟩
theorem dzl_of {β : Type} {i : Int64} {r : Option β} (h : ¬ i = 0) : dzl i r = r := if_neg h
/-- a number that is a truth value -/
def cz {β : Type} (i : Int32) (r : Option β) : Option β := if (i = 0 ∨ i = 1) then r else none
theorem b_cz {β : Type} {i : Int32} {r : Option β} {out : β} (h : cz i r = some out) : (i = 0 ∨ i = 1) ∧ r = some out := by
  unfold cz at h
  by_cases q : (i = 0 ∨ i = 1)
  · rw [if_pos q] at h; exact ⟨q, h⟩
  · rw [if_neg q] at h; cases h
theorem cz_of {β : Type} {i : Int32} {r : Option β} (h : i = 0 ∨ i = 1) : cz i r = r := if_pos h
theorem cz_and {i : Int32} (h : i = 0 ∨ i = 1) : i &&& 1 = i := by rcases h with rfl | rfl <;> decide +kernel
theorem if_t {β : Type} {c : Prop} [Decidable c] {a b : Option β} {out : β} (h : (if c then a else b) = some out) (hc : c) : a = some out := by rw [if_pos hc] at h; exact h
theorem if_e {β : Type} {c : Prop} [Decidable c] {a b : Option β} {out : β} (h : (if c then a else b) = some out) (hc : ¬ c) : b = some out := by rw [if_neg hc] at h; exact h
/-- a loop: its body goes on (left) or comes to an end (right) -/
def itr {α β : Type} (f : α → Option (α ⊕ β)) : Nat → α → Option β
  | 0, _ => none
  | n + 1, a => match f a with
    | none => none
    | some (.inl b) => itr f n b
    | some (.inr r) => some r
theorem itr_s {α β : Type} {f : α → Option (α ⊕ β)} {n : Nat} {a : α} {res : β} (h : itr f (n + 1) a = some res) : ∃ r, f a = some r ∧ (∀ b, r = .inl b → itr f n b = some res) ∧ (∀ b, r = .inr b → b = res) := by
  rw [itr] at h
  cases hf : f a with
  | none => rw [hf] at h; cases h
  | some r =>
    rw [hf] at h
    cases r with
    | inl b => exact ⟨_, rfl, (fun b' e => by cases e; exact h), (fun b' e => by cases e)⟩
    | inr b => exact ⟨_, rfl, (fun b' e => by cases e), (fun b' e => by cases e; exact Option.some.inj h)⟩
theorem itr_0 {α β : Type} {f : α → Option (α ⊕ β)} {a : α} {res : β} (h : itr f 0 a = some res) : False := by cases h
theorem itr_l {α β : Type} {f : α → Option (α ⊕ β)} {n : Nat} {a b : α} (h : f a = some (.inl b)) : itr f (n + 1) a = itr f n b := by rw [itr, h]
theorem itr_r {α β : Type} {f : α → Option (α ⊕ β)} {n : Nat} {a : α} {r : β} (h : f a = some (.inr r)) : itr f (n + 1) a = some r := by rw [itr, h]
/-- how many turns a loop may take at most: far more than any takes -/
def lfu : Nat := 100000
def bs {α β γ : Type} (o : Option (α ⊕ β)) (kr : β → Option γ) (k : α → Option γ) : Option γ := match o with
  | none => none
  | some (.inl a) => k a
  | some (.inr b) => kr b
theorem b_bs {α β γ : Type} {o : Option (α ⊕ β)} {kr : β → Option γ} {k : α → Option γ} {out : γ} (h : bs o kr k = some out) : ∃ r, o = some r ∧ ((∃ a, r = .inl a ∧ k a = some out) ∨ (∃ b, r = .inr b ∧ kr b = some out)) := by
  cases o with
  | none => cases h
  | some r =>
    cases r with
    | inl a => exact ⟨_, rfl, Or.inl ⟨a, rfl, h⟩⟩
    | inr b => exact ⟨_, rfl, Or.inr ⟨b, rfl, h⟩⟩
def bd1 {a1 z : Type} (o : Option a1) (k : a1 → Option z) : Option z := match o with
  | none => none
  | some q => k q
theorem b_bd1 {a1 z : Type} {o : Option a1} {k : a1 → Option z} {out : z} (h : bd1 o k = some out) : ∃ x1, o = some x1 ∧ k x1 = some out := by
  cases o with
  | none => cases h
  | some q => exact ⟨_, rfl, h⟩
def bd2 {a1 a2 z : Type} (o : Option (a1 × a2)) (k : a1 → a2 → Option z) : Option z := match o with
  | none => none
  | some q => k q.1 q.2
theorem b_bd2 {a1 a2 z : Type} {o : Option (a1 × a2)} {k : a1 → a2 → Option z} {out : z} (h : bd2 o k = some out) : ∃ x1 x2, o = some (x1, x2) ∧ k x1 x2 = some out := by
  cases o with
  | none => cases h
  | some q => exact ⟨_, _, rfl, h⟩
def bd3 {a1 a2 a3 z : Type} (o : Option (a1 × a2 × a3)) (k : a1 → a2 → a3 → Option z) : Option z := match o with
  | none => none
  | some q => k q.1 q.2.1 q.2.2
theorem b_bd3 {a1 a2 a3 z : Type} {o : Option (a1 × a2 × a3)} {k : a1 → a2 → a3 → Option z} {out : z} (h : bd3 o k = some out) : ∃ x1 x2 x3, o = some (x1, x2, x3) ∧ k x1 x2 x3 = some out := by
  cases o with
  | none => cases h
  | some q => exact ⟨_, _, _, rfl, h⟩
def bd4 {a1 a2 a3 a4 z : Type} (o : Option (a1 × a2 × a3 × a4)) (k : a1 → a2 → a3 → a4 → Option z) : Option z := match o with
  | none => none
  | some q => k q.1 q.2.1 q.2.2.1 q.2.2.2
theorem b_bd4 {a1 a2 a3 a4 z : Type} {o : Option (a1 × a2 × a3 × a4)} {k : a1 → a2 → a3 → a4 → Option z} {out : z} (h : bd4 o k = some out) : ∃ x1 x2 x3 x4, o = some (x1, x2, x3, x4) ∧ k x1 x2 x3 x4 = some out := by
  cases o with
  | none => cases h
  | some q => exact ⟨_, _, _, _, rfl, h⟩
def bd5 {a1 a2 a3 a4 a5 z : Type} (o : Option (a1 × a2 × a3 × a4 × a5)) (k : a1 → a2 → a3 → a4 → a5 → Option z) : Option z := match o with
  | none => none
  | some q => k q.1 q.2.1 q.2.2.1 q.2.2.2.1 q.2.2.2.2
theorem b_bd5 {a1 a2 a3 a4 a5 z : Type} {o : Option (a1 × a2 × a3 × a4 × a5)} {k : a1 → a2 → a3 → a4 → a5 → Option z} {out : z} (h : bd5 o k = some out) : ∃ x1 x2 x3 x4 x5, o = some (x1, x2, x3, x4, x5) ∧ k x1 x2 x3 x4 x5 = some out := by
  cases o with
  | none => cases h
  | some q => exact ⟨_, _, _, _, _, rfl, h⟩
def bd6 {a1 a2 a3 a4 a5 a6 z : Type} (o : Option (a1 × a2 × a3 × a4 × a5 × a6)) (k : a1 → a2 → a3 → a4 → a5 → a6 → Option z) : Option z := match o with
  | none => none
  | some q => k q.1 q.2.1 q.2.2.1 q.2.2.2.1 q.2.2.2.2.1 q.2.2.2.2.2
theorem b_bd6 {a1 a2 a3 a4 a5 a6 z : Type} {o : Option (a1 × a2 × a3 × a4 × a5 × a6)} {k : a1 → a2 → a3 → a4 → a5 → a6 → Option z} {out : z} (h : bd6 o k = some out) : ∃ x1 x2 x3 x4 x5 x6, o = some (x1, x2, x3, x4, x5, x6) ∧ k x1 x2 x3 x4 x5 x6 = some out := by
  cases o with
  | none => cases h
  | some q => exact ⟨_, _, _, _, _, _, rfl, h⟩
def bd7 {a1 a2 a3 a4 a5 a6 a7 z : Type} (o : Option (a1 × a2 × a3 × a4 × a5 × a6 × a7)) (k : a1 → a2 → a3 → a4 → a5 → a6 → a7 → Option z) : Option z := match o with
  | none => none
  | some q => k q.1 q.2.1 q.2.2.1 q.2.2.2.1 q.2.2.2.2.1 q.2.2.2.2.2.1 q.2.2.2.2.2.2
theorem b_bd7 {a1 a2 a3 a4 a5 a6 a7 z : Type} {o : Option (a1 × a2 × a3 × a4 × a5 × a6 × a7)} {k : a1 → a2 → a3 → a4 → a5 → a6 → a7 → Option z} {out : z} (h : bd7 o k = some out) : ∃ x1 x2 x3 x4 x5 x6 x7, o = some (x1, x2, x3, x4, x5, x6, x7) ∧ k x1 x2 x3 x4 x5 x6 x7 = some out := by
  cases o with
  | none => cases h
  | some q => exact ⟨_, _, _, _, _, _, _, rfl, h⟩
def bd8 {a1 a2 a3 a4 a5 a6 a7 a8 z : Type} (o : Option (a1 × a2 × a3 × a4 × a5 × a6 × a7 × a8)) (k : a1 → a2 → a3 → a4 → a5 → a6 → a7 → a8 → Option z) : Option z := match o with
  | none => none
  | some q => k q.1 q.2.1 q.2.2.1 q.2.2.2.1 q.2.2.2.2.1 q.2.2.2.2.2.1 q.2.2.2.2.2.2.1 q.2.2.2.2.2.2.2
theorem b_bd8 {a1 a2 a3 a4 a5 a6 a7 a8 z : Type} {o : Option (a1 × a2 × a3 × a4 × a5 × a6 × a7 × a8)} {k : a1 → a2 → a3 → a4 → a5 → a6 → a7 → a8 → Option z} {out : z} (h : bd8 o k = some out) : ∃ x1 x2 x3 x4 x5 x6 x7 x8, o = some (x1, x2, x3, x4, x5, x6, x7, x8) ∧ k x1 x2 x3 x4 x5 x6 x7 x8 = some out := by
  cases o with
  | none => cases h
  | some q => exact ⟨_, _, _, _, _, _, _, _, rfl, h⟩

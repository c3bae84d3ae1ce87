/-! THE PURE PART. Small facts on the pieces; numbers as nI. -/
theorem bd1_s {a1 z : Type} (x : a1) (k : a1 → Option z) : bd1 (some x) k = k x := rfl
theorem bd2_s {a1 a2 z : Type} (x : a1) (y : a2) (k : a1 → a2 → Option z) : bd2 (some (x, y)) k = k x y := rfl
theorem bd3_s {a1 a2 a3 z : Type} (x : a1) (y : a2) (w : a3) (k : a1 → a2 → a3 → Option z) : bd3 (some (x, y, w)) k = k x y w := rfl
theorem bd4_s {a1 a2 a3 a4 z : Type} (x : a1) (y : a2) (w : a3) (v : a4) (k : a1 → a2 → a3 → a4 → Option z) : bd4 (some (x, y, w, v)) k = k x y w v := rfl
theorem bnd_s {α β : Type} (a : α) (f : α → β) : bnd a f = f a := rfl
theorem bs_l {α β γ : Type} (a : α) (kr : β → Option γ) (k : α → Option γ) : bs (some (.inl a)) kr k = k a := rfl
theorem bs_r {α β γ : Type} (b : β) (kr : β → Option γ) (k : α → Option γ) : bs (some (.inr b)) kr k = kr b := rfl
theorem ck_n {β : Type} {i n : Nat} {r : Option β} (h : i < n) (hn : n < 2 ^ 31) : ck (nI i) n r = r := ck_of (vp_in_nI h hn)
theorem cz_0 {β : Type} (r : Option β) : cz 0 r = r := cz_of (Or.inl rfl)
theorem cz_1 {β : Type} (r : Option β) : cz 1 r = r := cz_of (Or.inr rfl)
theorem n_0 : (0 : Int32) = nI 0 := rfl
theorem n_1 : (1 : Int32) = nI 1 := rfl
theorem n_2 : (2 : Int32) = nI 2 := rfl
theorem n_3 : (3 : Int32) = nI 3 := rfl
theorem n_5 : (5 : Int32) = nI 5 := rfl
theorem n_6 : (6 : Int32) = nI 6 := rfl
theorem n_11 : (11 : Int32) = nI 11 := rfl
theorem n_55 : (55 : Int32) = nI 55 := rfl
theorem up_at (σ : sg_T) (p j : Nat) (x : Int32) (q k : Nat) : up σ p j x q k = if q = p ∧ k = j then x else σ q k := by
  unfold up upd
  by_cases h1 : q = p
  · rw [if_pos h1]
    by_cases h2 : k = j
    · rw [if_pos h2, if_pos ⟨h1, h2⟩]
    · rw [if_neg h2, if_neg (fun h => h2 h.2)]
  · rw [if_neg h1, if_neg (fun h => h1 h.1)]
theorem up_ne {σ : sg_T} {p j : Nat} {x : Int32} {q k : Nat} (h : q ≠ p) : up σ p j x q k = σ q k := by rw [up_at, if_neg (fun z => h z.1)]
theorem up_nk {σ : sg_T} {p j : Nat} {x : Int32} {q k : Nat} (h : k ≠ j) : up σ p j x q k = σ q k := by rw [up_at, if_neg (fun z => h z.2)]
theorem up_eq {σ : sg_T} {p j : Nat} {x : Int32} : up σ p j x p j = x := by rw [up_at, if_pos ⟨rfl, rfl⟩]
/-- a loop that goes through N turns by an invariant -/
theorem itr_inv {α β : Type} {f : α → Option (α ⊕ β)} {I : Nat → α → Prop} {R : β → Prop} {N : Nat} (hs : ∀ k, k < N → ∀ a, I k a → ∃ a', f a = some (.inl a') ∧ I (k + 1) a') (he : ∀ a, I N a → ∃ r, f a = some (.inr r) ∧ R r) : ∀ (d k : Nat) (n : Nat) (a : α), k + d = N → d < n → I k a → ∃ r, itr f n a = some r ∧ R r := by
  intro d
  induction d with
  | zero =>
    intro k n a hk hn hI
    obtain ⟨n', rfl⟩ : ∃ n', n = n' + 1 := ⟨n - 1, by omega⟩
    obtain ⟨r, h1, h2⟩ := he a (by have : k = N := by omega
                                   rw [← this]; exact hI)
    exact ⟨r, itr_r h1, h2⟩
  | succ d ih =>
    intro k n a hk hn hI
    obtain ⟨n', rfl⟩ : ∃ n', n = n' + 1 := ⟨n - 1, by omega⟩
    obtain ⟨a', h1, h2⟩ := hs k (by omega) a hI
    obtain ⟨r, h3, h4⟩ := ih (k + 1) n' a' (by omega) (by omega) h2
    exact ⟨r, by rw [itr_l h1]; exact h3, h4⟩
theorem itr_run {α β : Type} {f : α → Option (α ⊕ β)} (I : Nat → α → Prop) (R : β → Prop) (N : Nat) {a : α} (h0 : I 0 a) (hs : ∀ k, k < N → ∀ a, I k a → ∃ a', f a = some (.inl a') ∧ I (k + 1) a') (he : ∀ a, I N a → ∃ r, f a = some (.inr r) ∧ R r) (hN : N < 100000) : ∃ r, itr f lfu a = some r ∧ R r :=
  itr_inv hs he N 0 lfu a (by omega) (by show N < 100000; exact hN) h0
theorem itr_seq {α β : Type} {f : α → Option (α ⊕ β)} (S : Nat → α) (N : Nat) {r : β} (hs : ∀ k, k < N → f (S k) = some (.inl (S (k + 1)))) (he : f (S N) = some (.inr r)) (hN : N < 100000) : itr f lfu (S 0) = some r := by
  obtain ⟨r', h1, h2⟩ := itr_run (I := fun k a => a = S k) (R := fun x => x = r) N rfl (fun k hk a ha => ⟨S (k + 1), by rw [ha]; exact hs k hk, rfl⟩) (fun a ha => ⟨r, by rw [ha]; exact he, rfl⟩) hN
  rw [h1, h2]
theorem nI_sm {m : Nat} (h : m ≤ 5) : m < 2 ^ 31 := by omega
theorem nle_of_lt {i m : Nat} (h : i < m) (hm : m < 2 ^ 31) : ¬ nI m ≤ nI i := by rw [nI_leI hm (by omega)]; omega
theorem le_of_le {i m : Nat} (h : m ≤ i) (hi : i < 2 ^ 31) : nI m ≤ nI i := by rw [nI_leI (by omega) hi]; exact h
/-- the people, as the specification has them: of one i the kind (0), number (1), duty (2), tired (3), missed (4), late (5), how fond of j (6 + j) -/
abbrev pa_T : Type := Nat → Nat → Int32
def PC (σ : sg_T) (o : Nat) (a : pa_T) (m : Nat) (d ru : Int32) : Prop := m ≤ 5 ∧ σ o 7 = nI m ∧ σ o 8 = d ∧ σ o 9 = ru ∧ (∀ i, i < m → ∀ k, k < 6 → σ (o + 1 + k) i = a i k) ∧ (∀ i j, i < m → j < m → i ≠ j → σ (o + 7) (i * 5 + j) = a i (6 + j)) ∧ (∀ i, i < 5 → σ (o + 7) (i * 5 + i) = 0)
def PM (σ : sg_T) (q : Nat) (a : pa_T) (m : Nat) (d ru : Int32) : Prop := m ≤ 5 ∧ σ q 55 = nI m ∧ σ q 56 = d ∧ σ q 57 = ru ∧ (∀ i, i < m → ∀ k, k < 6 → σ q (11 * i + k) = a i k) ∧ (∀ i j, i < m → j < m → i ≠ j → σ q (11 * i + (6 + j)) = a i (6 + j))
def inr (x : Int32) (lo hi : Int) : Prop := lo ≤ x.toInt ∧ x.toInt ≤ hi
def OkP (a : pa_T) (m : Nat) : Prop := ∀ i, i < m → inr (a i 0) 0 5 ∧ inr (a i 1) 0 9 ∧ inr (a i 2) 0 23 ∧ inr (a i 3) 0 99 ∧ inr (a i 4) 0 99 ∧ inr (a i 5) 0 9999 ∧ ∀ j, j < m → i ≠ j → inr (a i (6 + j)) 0 9
theorem PC.eq {σ τ : sg_T} {o : Nat} {a : pa_T} {m : Nat} {d ru : Int32} (h : PC σ o a m d ru) (he : ∀ p, o ≤ p → p < o + 8 → τ p = σ p) : PC τ o a m d ru := by
  obtain ⟨h1, h2, h3, h4, h5, h6, h7⟩ := h
  refine ⟨h1, ?_, ?_, ?_, fun i hi k hk => ?_, fun i j hi hj hij => ?_, fun i hi => ?_⟩
  · rw [he o (by omega) (by omega)]; exact h2
  · rw [he o (by omega) (by omega)]; exact h3
  · rw [he o (by omega) (by omega)]; exact h4
  · rw [he (o + 1 + k) (by omega) (by omega)]; exact h5 i hi k hk
  · rw [he (o + 7) (by omega) (by omega)]; exact h6 i j hi hj hij
  · rw [he (o + 7) (by omega) (by omega)]; exact h7 i hi
theorem PM.eq {σ τ : sg_T} {q : Nat} {a : pa_T} {m : Nat} {d ru : Int32} (h : PM σ q a m d ru) (he : τ q = σ q) : PM τ q a m d ru := by
  unfold PM at h ⊢
  rw [he]; exact h
/-- who sets one's clock: behind k of them, the best so far, and how fond that one is -/
def sb (a : pa_T) (i : Nat) : Nat → Int32 × Int32
  | 0 => (-1, 0)
  | n + 1 => if n ≠ i ∧ (sb a i n).2 < a n (6 + i) then (nI n, a n (6 + i)) else sb a i n
theorem sb_1 (a : pa_T) (i n : Nat) : sb a i (n + 1) = if n ≠ i ∧ (sb a i n).2 < a n (6 + i) then (nI n, a n (6 + i)) else sb a i n := rfl
def setr (a : pa_T) (m i : Nat) : Int32 := (sb a i m).1
theorem sb_pos (a : pa_T) (i : Nat) : ∀ n, 0 ≤ (sb a i n).2
  | 0 => (by decide : (0 : Int32) ≤ 0)
  | n + 1 => by
    rw [sb_1]
    by_cases h : n ≠ i ∧ (sb a i n).2 < a n (6 + i)
    · rw [if_pos h]; exact Int32.le_of_lt (Int32.lt_of_le_of_lt (sb_pos a i n) h.2)
    · rw [if_neg h]; exact sb_pos a i n
theorem sb_in (a : pa_T) (i : Nat) : ∀ n, (sb a i n).1 = -1 ∨ ∃ k, k < n ∧ k ≠ i ∧ (sb a i n).1 = nI k
  | 0 => Or.inl rfl
  | n + 1 => by
    rw [sb_1]
    by_cases h : n ≠ i ∧ (sb a i n).2 < a n (6 + i)
    · rw [if_pos h]; exact Or.inr ⟨n, by omega, h.1, rfl⟩
    · rw [if_neg h]
      rcases sb_in a i n with h | ⟨k, h1, h2, h3⟩
      · exact Or.inl h
      · exact Or.inr ⟨k, by omega, h2, h3⟩
theorem has_in {σ : sg_T} {o i m : Nat} (hm : σ o 7 = nI m) (hm5 : m ≤ 5) (hi : i < m) : f_X1_has o (nI i) σ = some 1 := by
  unfold f_X1_has
  rw [if_neg (nI_pos (by omega)), hm, if_neg (nle_of_lt hi (by omega)), bnd_s, cz_1]
theorem has_out {σ : sg_T} {o m : Nat} {x : Int32} (hm : σ o 7 = nI m) (h : x < 0 ∨ nI m ≤ x) : f_X1_has o x σ = some 0 := by
  unfold f_X1_has
  by_cases h0 : x < 0
  · rw [if_pos h0]
  · rw [if_neg h0, hm, if_pos (h.resolve_left h0), bnd_s, cz_0]
theorem setterOf_c {σ : sg_T} {o : Nat} {a : pa_T} {m : Nat} {d ru : Int32} (h : PC σ o a m d ru) {i : Nat} (hi : i < m) : f_X1_setterOf o (nI i) σ = some (setr a m i) := by
  obtain ⟨h1, h2, h3, h4, h5, h6, h7⟩ := h
  have hl : itr (fun q => b_X1_setterOf_17 o (nI i) q.1 q.2.1 q.2.2 σ) lfu ((-1), 0, 0) = some ((sb a i m).1, (sb a i m).2, nI m) := by
    refine itr_seq (fun k => ((sb a i k).1, (sb a i k).2, nI k)) m (fun k hk => ?_) ?_ (by omega)
    · show b_X1_setterOf_17 o (nI i) (sb a i k).1 (sb a i k).2 (nI k) σ = _
      unfold b_X1_setterOf_17
      have e5 : nI k * 5 + nI i = nI (k * 5 + i) := by rw [n_5, pk_mul, nI_add]
      rw [h2, if_neg (nle_of_lt hk (by omega)), e5, ck_n (by omega) (by omega), nI_clamp (by omega), bnd_s]
      by_cases hki : k = i
      · subst hki
        rw [h7 k (by omega), if_pos (sb_pos a k k), bnd_s, nI_1, sb_1, if_neg (fun z => z.1 rfl)]
      · rw [h6 k i hk hi hki]
        by_cases hc : a k (6 + i) ≤ (sb a i k).2
        · rw [if_pos hc, bnd_s, nI_1, sb_1, if_neg (fun z => Int32.not_lt.mpr hc z.2)]
        · rw [if_neg hc, bnd_s, nI_1, sb_1, if_pos ⟨hki, Int32.not_le.mp hc⟩]
    · show b_X1_setterOf_17 o (nI i) (sb a i m).1 (sb a i m).2 (nI m) σ = _
      unfold b_X1_setterOf_17
      rw [h2, if_pos (Int32.le_refl _)]
  unfold f_X1_setterOf
  rw [has_in h2 h1 hi, bd1_s, if_neg (by decide), hl, bd3_s]
  rfl

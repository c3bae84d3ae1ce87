/-! Tokens of a tape, as both find them. -/
/-- the first place from p on at which P doesn't hold, or the end -/
def rn (P : Nat → Bool) (l : Nat) : Nat → Nat → Nat
  | 0, p => p
  | f + 1, p => if p < l ∧ P p = true then rn P l f (p + 1) else p
theorem rn_1 (P : Nat → Bool) (l f p : Nat) : rn P l (f + 1) p = if p < l ∧ P p = true then rn P l f (p + 1) else p := rfl
theorem rn_stop (P : Nat → Bool) {l p : Nat} (h : ¬ (p < l ∧ P p = true)) : ∀ f, rn P l f p = p
  | 0 => rfl
  | f + 1 => by rw [rn_1, if_neg h]
/-- enough fuel is enough -/
theorem rn_f (P : Nat → Bool) (l : Nat) : ∀ (f g p : Nat), l ≤ p + f → l ≤ p + g → rn P l f p = rn P l g p
  | 0, g, p, h1, _ => by rw [rn_stop P (by omega) g]; rfl
  | f + 1, 0, p, _, h2 => by rw [rn_stop P (by omega) (f + 1)]; rfl
  | f + 1, g + 1, p, h1, h2 => by rw [rn_1, rn_1, rn_f P l f g (p + 1) (by omega) (by omega)]
def rnl (P : Nat → Bool) (l p : Nat) : Nat := rn P l l p
theorem rnl_s (P : Nat → Bool) {l p : Nat} (h : p < l ∧ P p = true) : rnl P l p = rnl P l (p + 1) := by
  unfold rnl
  rw [rn_f P l l (l + 1) p (by omega) (by omega), rn_1, if_pos h]
theorem rnl_e (P : Nat → Bool) {l p : Nat} (h : ¬ (p < l ∧ P p = true)) : rnl P l p = p := rn_stop P h l
theorem rn_rng (P : Nat → Bool) (l : Nat) : ∀ (f p : Nat), p ≤ l → p ≤ rn P l f p ∧ rn P l f p ≤ l ∧ (l ≤ p + f → ¬ (rn P l f p < l ∧ P (rn P l f p) = true)) ∧ ∀ j, p ≤ j → j < rn P l f p → P j = true
  | 0, p, h => ⟨Nat.le_refl _, h, fun h2 => by
      show ¬ (p < l ∧ _)
      omega, fun j h1 h2 => absurd h2 (Nat.not_lt.mpr h1)⟩
  | f + 1, p, h => by
    rw [rn_1]
    by_cases hc : p < l ∧ P p = true
    · rw [if_pos hc]
      obtain ⟨h1, h2, h3, h4⟩ := rn_rng P l f (p + 1) (by omega)
      refine ⟨by omega, h2, fun q => h3 (by omega), fun j g1 g2 => ?_⟩
      by_cases hj : j = p
      · rw [hj]; exact hc.2
      · exact h4 j (by omega) g2
    · rw [if_neg hc]
      exact ⟨Nat.le_refl _, h, fun _ => hc, fun j h1 h2 => absurd h2 (Nat.not_lt.mpr h1)⟩
theorem rnl_rng (P : Nat → Bool) {l p : Nat} (h : p ≤ l) : p ≤ rnl P l p ∧ rnl P l p ≤ l ∧ (¬ (rnl P l p < l ∧ P (rnl P l p) = true)) ∧ ∀ j, p ≤ j → j < rnl P l p → P j = true := by
  obtain ⟨h1, h2, h3, h4⟩ := rn_rng P l l p h
  exact ⟨h1, h2, h3 (by omega), h4⟩
def isL (b : Int32) : Bool := decide (97 ≤ b ∧ b ≤ 122)
def isD (b : Int32) : Bool := decide (48 ≤ b ∧ b ≤ 57)
def isB (b : Int32) : Bool := decide (b = 32 ∨ b = 10)
def isG (b : Int32) : Bool := decide (b = 40 ∨ b = 41 ∨ b = 59 ∨ b = 43 ∨ b = 45 ∨ b = 42 ∨ b = 60 ∨ b = 61)
section TokB
variable (s : Nat → Int32) (l : Nat)
def skp (p : Nat) : Nat := rnl (fun q => isB (s q)) l p
def endt (q : Nat) : Nat := if isL (s q) = true then rnl (fun j => isL (s j)) l (q + 1) else if isD (s q) = true then rnl (fun j => isD (s j)) l (q + 1) else q + 1
def Pt : Nat → Nat
  | 0 => skp s l 0
  | k + 1 => if Pt k < l then skp s l (endt s l (Pt k)) else l
theorem Pt_1 (k : Nat) : Pt s l (k + 1) = if Pt s l k < l then skp s l (endt s l (Pt s l k)) else l := rfl
def nv (q : Nat) : Nat → Int32
  | 0 => 0
  | j + 1 => nv q j * 10 + s (q + j) - 48
theorem nv_1 (q j : Nat) : nv s q (j + 1) = nv s q j * 10 + s (q + j) - 48 := rfl
/-- whether the letters from q to e are the word w -/
def wm (q e w : Nat) : Bool := decide (e - q ≤ 6) && (List.range 6).all (fun c => if q + c < e then decide (nmw.getD (6 * w + c) 0 = s (q + c)) else decide (nmw.getD (6 * w + c) 0 = 0))
def wix (q e : Nat) : Int32 := fo (fun w => !wm s q e w) 12
def Kt (q : Nat) : Int32 := if q < l then (if isL (s q) = true then (if wix s q (endt s l q) = -1 then 302 else wix s q (endt s l q)) else if isD (s q) = true then (if endt s l q - q ≤ 4 then 300 else 302) else if isG (s q) = true then s q else 302) else 301
def Vt (q : Nat) : Int32 := nv s q (endt s l q - q)
def srt (q : Nat) : Int32 := if q < l then (if isL (s q) = true then 1 else if isD (s q) = true then 2 else 3) else 0
def Et (q : Nat) : Nat := if q < l then endt s l q else l
theorem endt_rng {q : Nat} (h : q < l) : q + 1 ≤ endt s l q ∧ endt s l q ≤ l := by
  unfold endt
  split
  · obtain ⟨h1, h2, _⟩ := rnl_rng (fun j => isL (s j)) (l := l) (p := q + 1) (by omega)
    exact ⟨h1, h2⟩
  · split
    · obtain ⟨h1, h2, _⟩ := rnl_rng (fun j => isD (s j)) (l := l) (p := q + 1) (by omega)
      exact ⟨h1, h2⟩
    · omega
theorem Pt_le : ∀ k, Pt s l k ≤ l
  | 0 => (rnl_rng (fun q => isB (s q)) (Nat.zero_le l)).2.1
  | k + 1 => by
    rw [Pt_1]
    split
    · rename_i h
      exact (rnl_rng (fun q => isB (s q)) (endt_rng s l h).2).2.1
    · exact Nat.le_refl _
theorem Pt_gt {k : Nat} (h : Pt s l k < l) : Pt s l k < Pt s l (k + 1) := by
  rw [Pt_1, if_pos h]
  have h1 := (endt_rng s l h)
  have h2 := (rnl_rng (fun q => isB (s q)) h1.2).1
  show _ < rnl (fun q => isB (s q)) l _
  omega
theorem Pt_ge : ∀ k, Pt s l k < l → k ≤ Pt s l k
  | 0, _ => Nat.zero_le _
  | k + 1, h => by
    have hk : Pt s l k < l := by
      by_cases hq : Pt s l k < l
      · exact hq
      · rw [Pt_1, if_neg hq] at h; omega
    have h1 := Pt_gt s l hk
    have h2 := Pt_ge k hk
    omega
theorem Pt_nb (k : Nat) : ¬ (Pt s l k < l ∧ isB (s (Pt s l k)) = true) := by
  rcases k with _ | k
  · exact (rnl_rng (fun q => isB (s q)) (Nat.zero_le l)).2.2.1
  · rw [Pt_1]
    split
    · rename_i h
      exact (rnl_rng (fun q => isB (s q)) (endt_rng s l h).2).2.2.1
    · omega
/-- how many tokens there are -/
theorem tokK : ∃ K, K ≤ l ∧ Pt s l K = l ∧ ∀ j, j < K → Pt s l j < l := by
  have h : ∀ N, (∃ K, K ≤ N ∧ Pt s l K = l ∧ ∀ j, j < K → Pt s l j < l) ∨ ∀ j, j ≤ N → Pt s l j < l := by
    intro N
    induction N with
    | zero =>
      by_cases h0 : Pt s l 0 < l
      · right; intro j hj; rw [show j = 0 by omega]; exact h0
      · left; exact ⟨0, Nat.le_refl _, by have := Pt_le s l 0; omega, fun j hj => absurd hj (Nat.not_lt_zero _)⟩
    | succ N ih =>
      rcases ih with ⟨K, h1, h2, h3⟩ | h1
      · left; exact ⟨K, by omega, h2, h3⟩
      · by_cases h0 : Pt s l (N + 1) < l
        · right; intro j hj
          by_cases hjN : j = N + 1
          · rw [hjN]; exact h0
          · exact h1 j (by omega)
        · left; exact ⟨N + 1, Nat.le_refl _, by have := Pt_le s l (N + 1); omega, fun j hj => h1 j (by omega)⟩
  rcases h l with h1 | h1
  · exact h1
  · exfalso
    have h2 := h1 l (Nat.le_refl _)
    have h3 := Pt_ge s l l h2
    omega
theorem fo_rng (p : Nat → Bool) : ∀ L, L < 2 ^ 31 → fo p L = -1 ∨ ∃ k, k < L ∧ fo p L = nI k ∧ ¬ p k = true
  | 0, _ => Or.inl rfl
  | L + 1, h => by
    rw [fo_1]
    rcases fo_rng p L (by omega) with h1 | ⟨k, h1, h2, h3⟩
    · rw [if_pos h1]
      by_cases hp : p L = true
      · rw [if_pos hp]; exact Or.inl rfl
      · rw [if_neg hp]; exact Or.inr ⟨L, by omega, rfl, hp⟩
    · right
      rw [if_neg (by rw [h2]; exact nI_ne_m1 (by omega))]
      exact ⟨k, by omega, h2, h3⟩
/-- a token's sign: what kind of number it is -/
theorem Kt_c (q : Nat) : (q < l ∧ isL (s q) = true ∧ (Kt s l q = 302 ∨ ∃ w, w < 12 ∧ Kt s l q = nI w)) ∨ (q < l ∧ ¬ isL (s q) = true ∧ isD (s q) = true ∧ (Kt s l q = 302 ∨ Kt s l q = 300)) ∨ (q < l ∧ ¬ isL (s q) = true ∧ ¬ isD (s q) = true ∧ ((isG (s q) = true ∧ Kt s l q = s q) ∨ (¬ isG (s q) = true ∧ Kt s l q = 302))) ∨ (¬ q < l ∧ Kt s l q = 301) := by
  unfold Kt
  by_cases h : q < l
  · rw [if_pos h]
    by_cases hL : isL (s q) = true
    · rw [if_pos hL]
      left
      refine ⟨h, hL, ?_⟩
      by_cases hw : wix s q (endt s l q) = -1
      · rw [if_pos hw]; exact Or.inl rfl
      · rw [if_neg hw]
        rcases fo_rng (fun w => !wm s q (endt s l q) w) 12 (by decide) with h1 | ⟨k, h1, h2, _⟩
        · exact absurd h1 hw
        · exact Or.inr ⟨k, h1, h2⟩
    · rw [if_neg hL]
      by_cases hD : isD (s q) = true
      · rw [if_pos hD]
        right; left
        refine ⟨h, hL, hD, ?_⟩
        split
        · exact Or.inr rfl
        · exact Or.inl rfl
      · rw [if_neg hD]
        right; right; left
        refine ⟨h, hL, hD, ?_⟩
        by_cases hG : isG (s q) = true
        · rw [if_pos hG]; exact Or.inl ⟨hG, rfl⟩
        · rw [if_neg hG]; exact Or.inr ⟨hG, rfl⟩
  · rw [if_neg h]
    exact Or.inr (Or.inr (Or.inr ⟨h, rfl⟩))
theorem isG_v {b : Int32} (h : isG b = true) : b = 40 ∨ b = 41 ∨ b = 59 ∨ b = 43 ∨ b = 45 ∨ b = 42 ∨ b = 60 ∨ b = 61 := of_decide_eq_true h
theorem Kt_301 (q : Nat) : Kt s l q = 301 ↔ ¬ q < l := by
  rcases Kt_c s l q with ⟨h, _, h2⟩ | ⟨h, _, _, h2⟩ | ⟨h, _, _, h2⟩ | ⟨h, h2⟩
  · refine ⟨fun e => ?_, fun e => absurd h e⟩
    rcases h2 with h2 | ⟨w, hw, h2⟩
    · rw [h2] at e; exact absurd e (by decide)
    · rw [h2] at e
      exact absurd (nI_inj (j := 301) (by omega) (by decide) e) (by omega)
  · refine ⟨fun e => ?_, fun e => absurd h e⟩
    rcases h2 with h2 | h2
    · rw [h2] at e; exact absurd e (by decide)
    · rw [h2] at e; exact absurd e (by decide)
  · refine ⟨fun e => ?_, fun e => absurd h e⟩
    rcases h2 with ⟨hg, h2⟩ | ⟨_, h2⟩
    · rw [h2] at e
      rcases isG_v hg with g | g | g | g | g | g | g | g <;> (rw [g] at e; exact absurd e (by decide))
    · rw [h2] at e; exact absurd e (by decide)
  · exact ⟨fun _ => h, fun _ => h2⟩
theorem nv_rng {q : Nat} : ∀ j, j ≤ 4 → (∀ i, i < j → isD (s (q + i)) = true) → 0 ≤ (nv s q j).toInt ∧ (nv s q j).toInt < 10 ^ j
  | 0, _, _ => by
    show 0 ≤ (0 : Int32).toInt ∧ (0 : Int32).toInt < 1
    decide
  | j + 1, h4, hi => by
    obtain ⟨h1, h2⟩ := nv_rng j (by omega) (fun i hij => hi i (by omega))
    have hd : 48 ≤ s (q + j) ∧ s (q + j) ≤ 57 := of_decide_eq_true (hi j (by omega))
    have e48 : (48 : Int32).toInt = 48 := by decide
    have e57 : (57 : Int32).toInt = 57 := by decide
    have e10 : (10 : Int32).toInt = 10 := by decide
    have d1 := hd.1
    have d2 := hd.2
    rw [Int32.le_iff_toInt_le] at d1 d2
    have hj : (10 : Int) ^ j ≤ 1000 := by
      rcases (show j = 0 ∨ j = 1 ∨ j = 2 ∨ j = 3 by omega) with rfl | rfl | rfl | rfl <;> decide
    have hpow : (10 : Int) ^ (j + 1) = 10 ^ j * 10 := Int.pow_succ _ _
    have em : (nv s q j * 10).toInt = (nv s q j).toInt * 10 := by
      rw [Int32.toInt_mul, e10, Int.bmod_eq_of_le (by omega) (by omega)]
    rw [nv_1, sub_toInt (by rw [add_toInt (by omega) (by omega)]; omega) (by rw [add_toInt (by omega) (by omega)]; omega), add_toInt (by omega) (by omega), em, hpow]
    omega
end TokB

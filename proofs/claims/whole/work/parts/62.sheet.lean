/-! Sheets: a whole one. -/
theorem become_loop (σ : sg_T) {o L : Nat} (hL : L ≤ 40) (h : σ o 2 = nI L) (x y : Int32) : ∃ r, itr (fun q => b_X4_become_18 o x y q.1 q.2) lfu (0, σ) = some r ∧ ((∀ i, i < L → r.2 (o + 1) i = 0) ∧ ∀ q, q ≠ o + 1 → r.2 q = σ q) := by
  refine itr_run (f := fun q => b_X4_become_18 o x y q.1 q.2) (I := fun k q => q.1 = nI k ∧ (∀ i, i < k → q.2 (o + 1) i = 0) ∧ ∀ p, p ≠ o + 1 → q.2 p = σ p) (R := fun r => (∀ i, i < L → r.2 (o + 1) i = 0) ∧ ∀ q, q ≠ o + 1 → r.2 q = σ q) L (a := (0, σ)) ⟨rfl, fun i hi => absurd hi (Nat.not_lt_zero _), fun _ _ => rfl⟩ ?_ ?_ (by omega)
  · intro k hk ⟨w, τ⟩ ⟨hw, hI, hF⟩
    dsimp only at hw hI hF ⊢
    subst hw
    unfold b_X4_become_18
    rw [hF o (by omega), h, if_neg (nle_of_lt hk (by omega)), ck_n (by omega) (by decide), nI_clamp (by omega), bnd_s, bnd_s, nI_1]
    refine ⟨_, rfl, rfl, fun i hi => ?_, fun p hp => ?_⟩
    · dsimp only
      by_cases e : i = k
      · subst e; rw [up_eq]
      · rw [up_nk e]; exact hI i (by omega)
    · dsimp only
      rw [up_n hp]; exact hF p hp
  · intro ⟨w, τ⟩ ⟨hw, hI, hF⟩
    dsimp only at hw hI hF ⊢
    subst hw
    unfold b_X4_become_18
    rw [hF o (by omega), h, if_pos (Int32.le_refl _)]
    exact ⟨_, rfl, hI, hF⟩
theorem sheet_loop (σ : sg_T) {s : Nat} (hs : s < 4) (x y : Int32) : ∃ r, itr (fun q => b_X8_sheet_68 (nI s) x y q.1 q.2) lfu (0, σ) = some r ∧ ((∀ p, r.2 86 p = if 40 * s ≤ p ∧ p < 40 * s + 40 then 0 else σ 86 p) ∧ ∀ q, q ≠ 86 → r.2 q = σ q) := by
  refine itr_run (f := fun q => b_X8_sheet_68 (nI s) x y q.1 q.2) (I := fun k q => q.1 = nI k ∧ (∀ p, q.2 86 p = if 40 * s ≤ p ∧ p < 40 * s + k then 0 else σ 86 p) ∧ ∀ r, r ≠ 86 → q.2 r = σ r) (R := fun r => (∀ p, r.2 86 p = if 40 * s ≤ p ∧ p < 40 * s + 40 then 0 else σ 86 p) ∧ ∀ q, q ≠ 86 → r.2 q = σ q) 40 (a := (0, σ)) ⟨rfl, fun p => by rw [if_neg (by omega)], fun _ _ => rfl⟩ ?_ ?_ (by omega)
  · intro k hk ⟨w, τ⟩ ⟨hw, hI, hF⟩
    dsimp only at hw hI hF ⊢
    subst hw
    have c : ¬ (40 : Int32) ≤ nI k := nle_of_lt (m := 40) hk (by decide)
    have e40 : (40 : Int32) * nI s + nI k = nI (40 * s + k) := by
      rw [show (40 : Int32) = nI 40 from rfl, pk_mul, nI_add]
    unfold b_X8_sheet_68
    rw [if_neg c, e40, ck_n (by omega) (by decide), nI_clamp (by omega), bnd_s, bnd_s, nI_1]
    refine ⟨_, rfl, rfl, fun p => ?_, fun r hr => ?_⟩
    · dsimp only
      rw [up_at, hI p]
      by_cases c1 : p = 40 * s + k
      · have ht : 40 * s ≤ p ∧ p < 40 * s + (k + 1) := by omega
        rw [if_pos ⟨rfl, c1⟩, if_pos ht]
      · rw [if_neg (fun q => c1 q.2)]
        by_cases c2 : 40 * s ≤ p ∧ p < 40 * s + k
        · have ht : 40 * s ≤ p ∧ p < 40 * s + (k + 1) := by omega
          rw [if_pos c2, if_pos ht]
        · have ht : ¬ (40 * s ≤ p ∧ p < 40 * s + (k + 1)) := by omega
          rw [if_neg c2, if_neg ht]
    · dsimp only
      rw [up_n hr]; exact hF r hr
  · intro ⟨w, τ⟩ ⟨hw, hI, hF⟩
    dsimp only at hw hI hF ⊢
    subst hw
    have c : (40 : Int32) ≤ nI 40 := by decide
    unfold b_X8_sheet_68
    rw [if_pos c]
    exact ⟨_, rfl, hI, hF⟩

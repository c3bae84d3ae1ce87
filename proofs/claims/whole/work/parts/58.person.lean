/-! One more person. -/
def aN (a : pa_T) (m : Nat) (x y z : Int32) : pa_T := fun i k => if i = m then (if k = 0 then x else if k = 1 then y else if k = 2 then z else if k < 6 then 0 else 1) else if k = 6 + m then 1 else a i k
theorem come_loop (σ : sg_T) {o m : Nat} (hm : m < 5) (x y z : Int32) : ∃ r, itr (fun q => b_X1_come_114 o x y z (nI m) q.1 q.2) lfu (0, σ) = some r ∧ ((∀ i j, i < 5 → j < 5 → r.2 (o + 7) (i * 5 + j) = if (i = m ∧ j < m) ∨ (j = m ∧ i < m) then 1 else σ (o + 7) (i * 5 + j)) ∧ ∀ q, q ≠ o + 7 → r.2 q = σ q) := by
  refine itr_run (f := fun q => b_X1_come_114 o x y z (nI m) q.1 q.2) (I := fun k q => q.1 = nI k ∧ (∀ i j, i < 5 → j < 5 → q.2 (o + 7) (i * 5 + j) = if (i = m ∧ j < k) ∨ (j = m ∧ i < k) then 1 else σ (o + 7) (i * 5 + j)) ∧ ∀ p, p ≠ o + 7 → q.2 p = σ p) (R := fun r => (∀ i j, i < 5 → j < 5 → r.2 (o + 7) (i * 5 + j) = if (i = m ∧ j < m) ∨ (j = m ∧ i < m) then 1 else σ (o + 7) (i * 5 + j)) ∧ ∀ q, q ≠ o + 7 → r.2 q = σ q) m (a := (0, σ)) ⟨rfl, fun i j _ _ => by rw [if_neg (by omega)], fun _ _ => rfl⟩ ?_ ?_ (by omega)
  · intro k hk ⟨w, τ⟩ ⟨hw, hI, hF⟩
    dsimp only at hw hI hF ⊢
    subst hw
    have e1 : nI m * 5 + nI k = nI (m * 5 + k) := by rw [n_5, pk_mul, nI_add]
    have e2 : nI k * 5 + nI m = nI (k * 5 + m) := by rw [n_5, pk_mul, nI_add]
    unfold b_X1_come_114
    rw [if_neg (nle_of_lt hk (by omega)), e1, e2, ck_n (by omega) (by decide), nI_clamp (by omega), bnd_s, ck_n (by omega) (by decide), nI_clamp (by omega), bnd_s, bnd_s, nI_1]
    refine ⟨_, rfl, rfl, fun i j hi hj => ?_, fun p hp => ?_⟩
    · dsimp only
      rw [up_at, up_at, hI i j hi hj]
      by_cases c1 : i = k ∧ j = m
      · rw [if_pos (by omega), if_pos (by omega)]
      · rw [if_neg (by omega)]
        by_cases c2 : i = m ∧ j = k
        · rw [if_pos (by omega), if_pos (by omega)]
        · rw [if_neg (by omega)]
          by_cases c3 : (i = m ∧ j < k) ∨ (j = m ∧ i < k)
          · rw [if_pos c3, if_pos (by omega)]
          · rw [if_neg c3, if_neg (by omega)]
    · dsimp only
      rw [up_n hp, up_n hp]; exact hF p hp
  · intro ⟨w, τ⟩ ⟨hw, hI, hF⟩
    dsimp only at hw hI hF ⊢
    subst hw
    unfold b_X1_come_114
    rw [if_pos (Int32.le_refl _)]
    exact ⟨_, rfl, hI, hF⟩
theorem pers_1 (σ : sg_T) {m : Nat} (hm : m < 5) (x y z : Int32) : ∃ r, itr (fun q => b_X8_person_52 x y z (nI m) q.1 q.2) lfu (0, σ) = some r ∧ ((∀ p, r.2 70 p = if 11 * m ≤ p ∧ p < 11 * m + 11 then (if 11 * m + 6 ≤ p then 1 else 0) else σ 70 p) ∧ ∀ q, q ≠ 70 → r.2 q = σ q) := by
  refine itr_run (f := fun q => b_X8_person_52 x y z (nI m) q.1 q.2) (I := fun k q => q.1 = nI k ∧ (∀ p, q.2 70 p = if 11 * m ≤ p ∧ p < 11 * m + k then (if 11 * m + 6 ≤ p then 1 else 0) else σ 70 p) ∧ ∀ r, r ≠ 70 → q.2 r = σ r) (R := fun r => (∀ p, r.2 70 p = if 11 * m ≤ p ∧ p < 11 * m + 11 then (if 11 * m + 6 ≤ p then 1 else 0) else σ 70 p) ∧ ∀ q, q ≠ 70 → r.2 q = σ q) 11 (a := (0, σ)) ⟨rfl, fun p => by rw [if_neg (by omega)], fun _ _ => rfl⟩ ?_ ?_ (by omega)
  · intro k hk ⟨w, τ⟩ ⟨hw, hI, hF⟩
    dsimp only at hw hI hF ⊢
    subst hw
    have c : ¬ (11 : Int32) ≤ nI k := nle_of_lt (m := 11) hk (by decide)
    unfold b_X8_person_52
    rw [if_neg c, bnd_s, chg_m hm hk, bd1_s, bnd_s, nI_1]
    refine ⟨_, rfl, rfl, fun p => ?_, fun r hr => ?_⟩
    · dsimp only
      rw [up_at, hI p]
      by_cases c1 : p = 11 * m + k
      · have hv : (if (6 : Int32) ≤ nI k then (1 : Int32) else 0) = if 11 * m + 6 ≤ p then 1 else 0 := by
          by_cases c6 : 6 ≤ k
          · have l6 : (6 : Int32) ≤ nI k := le_of_le (m := 6) c6 (by omega)
            rw [if_pos l6, if_pos (by omega)]
          · have l6 : ¬ (6 : Int32) ≤ nI k := nle_of_lt (m := 6) (by omega) (by decide)
            rw [if_neg l6, if_neg (by omega)]
        have ht : 11 * m ≤ p ∧ p < 11 * m + (k + 1) := by omega
        rw [if_pos ⟨rfl, c1⟩, hv, if_pos ht]
      · rw [if_neg (fun q => c1 q.2)]
        by_cases c2 : 11 * m ≤ p ∧ p < 11 * m + k
        · have ht : 11 * m ≤ p ∧ p < 11 * m + (k + 1) := by omega
          rw [if_pos c2, if_pos ht]
        · have ht : ¬ (11 * m ≤ p ∧ p < 11 * m + (k + 1)) := by omega
          rw [if_neg c2, if_neg ht]
    · dsimp only
      rw [up_n hr]; exact hF r hr
  · intro ⟨w, τ⟩ ⟨hw, hI, hF⟩
    dsimp only at hw hI hF ⊢
    subst hw
    have c : (11 : Int32) ≤ nI 11 := by decide
    unfold b_X8_person_52
    rw [if_pos c]
    exact ⟨_, rfl, hI, hF⟩
theorem pers_2 (σ : sg_T) {m : Nat} (hm : m < 5) (x y z : Int32) : ∃ r, itr (fun q => b_X8_person_112 x y z (nI m) q.1 q.2) lfu (0, σ) = some r ∧ ((∀ i k, i < 5 → k < 11 → r.2 70 (11 * i + k) = if i < m ∧ k = 6 + m then 1 else σ 70 (11 * i + k)) ∧ (∀ p, 55 ≤ p → r.2 70 p = σ 70 p) ∧ ∀ q, q ≠ 70 → r.2 q = σ q) := by
  refine itr_run (f := fun q => b_X8_person_112 x y z (nI m) q.1 q.2) (I := fun j q => q.1 = nI j ∧ (∀ i k, i < 5 → k < 11 → q.2 70 (11 * i + k) = if i < j ∧ k = 6 + m then 1 else σ 70 (11 * i + k)) ∧ (∀ p, 55 ≤ p → q.2 70 p = σ 70 p) ∧ ∀ r, r ≠ 70 → q.2 r = σ r) (R := fun r => (∀ i k, i < 5 → k < 11 → r.2 70 (11 * i + k) = if i < m ∧ k = 6 + m then 1 else σ 70 (11 * i + k)) ∧ (∀ p, 55 ≤ p → r.2 70 p = σ 70 p) ∧ ∀ q, q ≠ 70 → r.2 q = σ q) m (a := (0, σ)) ⟨rfl, fun i k _ _ => by rw [if_neg (by omega)], fun _ _ => rfl, fun _ _ => rfl⟩ ?_ ?_ (by omega)
  · intro j hj ⟨w, τ⟩ ⟨hw, hI, hG, hF⟩
    dsimp only at hw hI hG hF ⊢
    subst hw
    unfold b_X8_person_112
    rw [if_neg (nle_of_lt hj (by omega)), n_6j, chg_m (by omega) (by omega), bd1_s, bnd_s, nI_1]
    refine ⟨_, rfl, rfl, fun i k hi hk => ?_, fun p hp => ?_, fun r hr => ?_⟩
    · dsimp only
      rw [up_at, hI i k hi hk]
      by_cases c1 : i = j ∧ k = 6 + m
      · rw [if_pos (by omega), if_pos (by omega)]
      · rw [if_neg (by omega)]
        by_cases c2 : i < j ∧ k = 6 + m
        · rw [if_pos c2, if_pos (by omega)]
        · rw [if_neg c2, if_neg (by omega)]
    · dsimp only
      rw [up_nk (by omega)]; exact hG p hp
    · dsimp only
      rw [up_n hr]; exact hF r hr
  · intro ⟨w, τ⟩ ⟨hw, hI, hG, hF⟩
    dsimp only at hw hI hG hF ⊢
    subst hw
    unfold b_X8_person_112
    rw [if_pos (Int32.le_refl _)]
    exact ⟨_, rfl, hI, hG, hF⟩

/-! Sheets: one cell. -/
theorem shx (x : Int32) : (∃ s, s < 4 ∧ x = nI s) ∨ (x < 0 ∨ nI 4 ≤ x) := who x (m := 4) (by decide)
theorem isSheet_c0 {σ : sg_T} {x : Int32} (h : x < 0 ∨ nI 4 ≤ x) : f_X7_isSheet x σ = some 0 := by
  unfold f_X7_isSheet
  by_cases x0 : x < 0
  · rw [if_pos x0]
  · have h4 : (4 : Int32) ≤ x := h.resolve_left x0
    rw [if_neg x0, if_pos h4, bnd_s, cz_0]
theorem isSheet_c1 {σ : sg_T} {s : Nat} (h : s < 4) : f_X7_isSheet (nI s) σ = some 1 := by
  have h4 : ¬ (4 : Int32) ≤ nI s := nle_of_lt (m := 4) h (by decide)
  unfold f_X7_isSheet
  rw [if_neg (nI_pos (by omega)), if_neg h4, bnd_s, cz_1]
theorem isSheet_m0 {σ : sg_T} {x : Int32} (h : x < 0 ∨ nI 4 ≤ x) : f_X8_isSheet x σ = some 0 := by
  unfold f_X8_isSheet
  rw [isIn_0 ?_, bd1_s, cz_0]
  rcases h with h | h
  · exact Or.inl h
  · right
    have e3 : (3 : Int32).toInt = 3 := by decide
    rw [Int32.le_iff_toInt_le, nI_toInt (by decide)] at h
    rw [Int32.lt_iff_toInt_lt]; omega
theorem isSheet_m1 {σ : sg_T} {s : Nat} (h : s < 4) : f_X8_isSheet (nI s) σ = some 1 := by
  have h3 : nI s ≤ 3 := le_of_le (i := 3) (by omega) (by decide)
  unfold f_X8_isSheet
  rw [isIn_1 (nI_pos' (by omega)) h3, bd1_s, cz_1]
/-- new sheets by both, and all else kept -/
theorem WR.sheets {σ τ : sg_T} {a : pa_T} {m : Nat} {d : Int32} {ru : Nat} {T : tx_T} {n : Nat} (h : WR σ a m d ru T n) (hs : SHR τ) (he : ∀ q, kp q → ¬ (60 ≤ q ∧ q ≤ 68) → ¬ (84 ≤ q ∧ q ≤ 86) → τ q = σ q) : WR τ a m d ru T n := by
  obtain ⟨hC, hM, hok, hd, hru, hTC, hTM, hO, hI, hTp, _, hH⟩ := h
  have ke : ∀ q, q = 0 ∨ q = 1 ∨ q = 2 ∨ (50 ≤ q ∧ q ≤ 57) ∨ q = 69 ∨ q = 70 ∨ q = 71 ∨ (73 ≤ q ∧ q ≤ 77) ∨ q = 88 → τ q = σ q := fun q hq => he q (by unfold kp; omega) (by omega) (by omega)
  refine ⟨hC.eq (fun p _ _ => he p (by unfold kp; omega) (by omega) (by omega)), hM.eq (ke 70 (by omega)), hok, hd, hru, hTC.eq (fun q _ _ _ _ => he q (by unfold kp; omega) (by omega) (by omega)), TM_scr hTM (fun q hq => ke q (by omega)), hO, ?_, ?_, hs, fun k hk => by rw [ke 73 (by omega), ke 88 (by omega), ke 77 (by omega)]; exact hH k hk⟩
  · unfold IMG at hI ⊢
    rw [ke 0 (by omega), ke 69 (by omega)]
    rcases hI with hI | ⟨h1, h2, a', m', d', ru', h3, h4, h5⟩
    · exact Or.inl hI
    · exact Or.inr ⟨h1, h2, a', m', d', ru', h3.eq (fun p _ _ => ke p (by omega)), h4.eq (ke 71 (by omega)), h5⟩
  · unfold TAP at hTp ⊢
    rw [ke 1 (by omega), ke 69 (by omega), ke 2 (by omega), ke 74 (by omega)]; exact hTp
theorem SHR.put {σ : sg_T} (h : SHR σ) {s j : Nat} (hs : s < 4) (hj : j < 40) (v : Int32) : SHR (up (up σ (61 + 2 * s + 1) j v) 86 (40 * s + j) v) := by
  intro t ht
  obtain ⟨h1, h2, h3, h4, h5⟩ := h t ht
  have u : ∀ q, q ≠ 86 → q ≠ 61 + 2 * s + 1 → up (up σ (61 + 2 * s + 1) j v) 86 (40 * s + j) v q = σ q := fun q q1 q2 => by rw [up_n q1, up_n q2]
  rw [u (61 + 2 * t) (by omega) (by omega), u 84 (by omega) (by omega), u 85 (by omega) (by omega)]
  refine ⟨h1, h2, h3, h4, fun i hi => ?_⟩
  unfold inr at h4
  have hi40 : i < 40 := by omega
  have v1 : up (up σ (61 + 2 * s + 1) j v) 86 (40 * s + j) v (61 + 2 * t + 1) i = if t = s ∧ i = j then v else σ (61 + 2 * t + 1) i := by
    rw [up_ne (by omega), up_at]
    by_cases c : t = s ∧ i = j
    · rw [if_pos c, if_pos (by omega)]
    · rw [if_neg c, if_neg (by omega)]
  have v2 : up (up σ (61 + 2 * s + 1) j v) 86 (40 * s + j) v 86 (40 * t + i) = if t = s ∧ i = j then v else σ 86 (40 * t + i) := by
    rw [up_at, up_ne (by omega)]
    by_cases c : t = s ∧ i = j
    · rw [if_pos c, if_pos (by omega)]
    · rw [if_neg c, if_neg (by omega)]
  rw [v1, v2]
  by_cases c : t = s ∧ i = j
  · rw [if_pos c, if_pos c]
  · rw [if_neg c, if_neg c]; exact h5 i hi

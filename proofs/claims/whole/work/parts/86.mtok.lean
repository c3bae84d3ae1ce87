/-! The model's tokens. -/
section MtokB
variable {s : Nat → Int32} {l : Nat}
def MTP (s : Nat → Int32) (l : Nat) (σ : sg_T) : Prop := l ≤ 160 ∧ σ 69 6 = nI l ∧ (∀ j, j < l → σ 74 j = s j) ∧ ∀ j, j < 72 → σ 77 j = nmw.getD j 0
def MTK (s : Nat → Int32) (l K : Nat) (σ : sg_T) (k : Nat) : Prop := k ≤ K ∧ MTP s l σ ∧ σ 69 8 = nI (Pt s l k) ∧ σ 69 7 = nI (Et s l (Pt s l k)) ∧ σ 69 9 = srt s l (Pt s l k)
theorem sortAt_m {σ : sg_T} (h : MTP s l σ) {q : Nat} (hq : q ≤ l) : f_X8_sortAt (nI q) σ = some (srt s l q) := by
  have hl := h.1
  unfold f_X8_sortAt srt
  by_cases hql : q < l
  · have h1 : nI q < σ 69 6 := by rw [h.2.1]; exact Int32.not_le.mp (nle_of_lt hql (by omega))
    rw [if_pos h1, if_pos hql, ck_n (by omega) (by decide), nI_clamp (by omega), h.2.2.1 q hql]
    by_cases hL : isL (s q) = true
    · have hb := of_decide_eq_true hL
      rw [isIn_1 hb.1 hb.2, bd1_s, if_neg (by decide), if_pos hL]
    · have hb : s q < 97 ∨ 122 < s q := by
        by_cases h97 : s q < 97
        · exact Or.inl h97
        · exact Or.inr (Int32.not_le.mp (fun z => hL (decide_eq_true ⟨Int32.not_lt.mp h97, z⟩)))
      rw [isIn_0 hb, bd1_s, if_pos rfl, if_neg hL, ck_n (by omega) (by decide)]
      by_cases hD : isD (s q) = true
      · have hd := of_decide_eq_true hD
        rw [isIn_1 hd.1 hd.2, bd1_s, if_neg (by decide), bnd_s, if_pos hD]
      · have hd : s q < 48 ∨ 57 < s q := by
          by_cases h48 : s q < 48
          · exact Or.inl h48
          · exact Or.inr (Int32.not_le.mp (fun z => hD (decide_eq_true ⟨Int32.not_lt.mp h48, z⟩)))
        rw [isIn_0 hd, bd1_s, if_pos rfl, bnd_s, if_neg hD]
  · have h1 : ¬ nI q < σ 69 6 := by rw [h.2.1]; exact Int32.not_lt.mpr (le_of_le (by omega) (by omega))
    rw [if_neg h1, if_neg hql]
theorem srt_v (q : Nat) : (srt s l q = 0 ∧ ¬ q < l) ∨ (srt s l q = 1 ∧ q < l ∧ isL (s q) = true) ∨ (srt s l q = 2 ∧ q < l ∧ ¬ isL (s q) = true ∧ isD (s q) = true) ∨ (srt s l q = 3 ∧ q < l ∧ ¬ isL (s q) = true ∧ ¬ isD (s q) = true) := by
  unfold srt
  by_cases hql : q < l
  · rw [if_pos hql]
    by_cases hL : isL (s q) = true
    · rw [if_pos hL]; exact Or.inr (Or.inl ⟨rfl, hql, hL⟩)
    · rw [if_neg hL]
      by_cases hD : isD (s q) = true
      · rw [if_pos hD]; exact Or.inr (Or.inr (Or.inl ⟨rfl, hql, hL, hD⟩))
      · rw [if_neg hD]; exact Or.inr (Or.inr (Or.inr ⟨rfl, hql, hL, hD⟩))
  · rw [if_neg hql]; exact Or.inl ⟨rfl, hql⟩
theorem srt_1 {q : Nat} : srt s l q = 1 ↔ q < l ∧ isL (s q) = true := by
  rcases srt_v (s := s) (l := l) q with ⟨h, h2⟩ | ⟨h, h2⟩ | ⟨h, h2⟩ | ⟨h, h2⟩
  · rw [h]; exact ⟨fun z => absurd z (by decide), fun z => absurd z.1 h2⟩
  · exact ⟨fun _ => h2, fun _ => h⟩
  · rw [h]; exact ⟨fun z => absurd z (by decide), fun z => absurd z.2 h2.2.1⟩
  · rw [h]; exact ⟨fun z => absurd z (by decide), fun z => absurd z.2 h2.2.1⟩
theorem srt_2 {q : Nat} (hL : ∀ b, isD b = true → ¬ isL b = true) : srt s l q = 2 ↔ q < l ∧ isD (s q) = true := by
  rcases srt_v (s := s) (l := l) q with ⟨h, h2⟩ | ⟨h, h2, h3⟩ | ⟨h, h2⟩ | ⟨h, h2⟩
  · rw [h]; exact ⟨fun z => absurd z (by decide), fun z => absurd z.1 h2⟩
  · rw [h]; exact ⟨fun z => absurd z (by decide), fun z => absurd h3 (hL _ z.2)⟩
  · exact ⟨fun _ => ⟨h2.1, h2.2.2⟩, fun _ => h⟩
  · rw [h]; exact ⟨fun z => absurd z (by decide), fun z => absurd z.2 h2.2.2⟩
theorem DL (b : Int32) (h : isD b = true) : ¬ isL b = true := fun q => by
  have h1 := (of_decide_eq_true h).2
  have h2 := (of_decide_eq_true q).1
  have e57 : (57 : Int32).toInt = 57 := by decide
  have e97 : (97 : Int32).toInt = 97 := by decide
  rw [Int32.le_iff_toInt_le] at h1 h2
  omega
theorem MTP.fr {σ τ : sg_T} (h : MTP s l σ) (h6 : τ 69 6 = σ 69 6) (h74 : τ 74 = σ 74) (h77 : τ 77 = σ 77) : MTP s l τ := ⟨h.1, by rw [h6]; exact h.2.1, fun j hj => by rw [h74]; exact h.2.2.1 j hj, fun j hj => by rw [h77]; exact h.2.2.2 j hj⟩
theorem next_from {σ : sg_T} (h : MTP s l σ) {p : Nat} (hp : p ≤ l) (h7 : σ 69 7 = nI p) : ∃ τ, f_X8_next σ = some τ ∧ MTP s l τ ∧ τ 69 8 = nI (skp s l p) ∧ τ 69 7 = nI (Et s l (skp s l p)) ∧ τ 69 9 = srt s l (skp s l p) ∧ (∀ q, q ≠ 69 → τ q = σ q) ∧ ∀ j, j ≠ 7 → j ≠ 8 → j ≠ 9 → τ 69 j = σ 69 j := by
  have hl := h.1
  obtain ⟨h1, h2, h3, h4⟩ := rnl_rng (fun q => isB (s q)) hp
  obtain ⟨N, hN⟩ : ∃ N, skp s l p = p + N := ⟨rnl (fun q => isB (s q)) l p - p, by
    show rnl (fun q => isB (s q)) l p = _
    omega⟩
  have hN' : rnl (fun q => isB (s q)) l p = p + N := hN
  rw [hN'] at h2 h3 h4
  have hrun : ∃ r, itr (fun q => b_X8_next_0 q) lfu σ = some r ∧ (r 69 7 = nI (p + N) ∧ (∀ q, q ≠ 69 → r q = σ q) ∧ ∀ j, j ≠ 7 → r 69 j = σ 69 j) := by
    refine itr_run (f := fun q => b_X8_next_0 q) (I := fun c τ => τ 69 7 = nI (p + c) ∧ (∀ q, q ≠ 69 → τ q = σ q) ∧ ∀ j, j ≠ 7 → τ 69 j = σ 69 j) (R := fun r => r 69 7 = nI (p + N) ∧ (∀ q, q ≠ 69 → r q = σ q) ∧ ∀ j, j ≠ 7 → r 69 j = σ 69 j) N (a := σ) ⟨h7, fun _ _ => rfl, fun _ _ => rfl⟩ ?_ ?_ (by omega)
    · intro c hc τ ⟨g7, gF, gJ⟩
      have hb : isB (s (p + c)) = true := h4 (p + c) (by omega) (by omega)
      have nx : ∀ ρ, ρ = up τ 69 7 (nI (p + (c + 1))) → ρ 69 7 = nI (p + (c + 1)) ∧ (∀ q, q ≠ 69 → ρ q = σ q) ∧ ∀ j, j ≠ 7 → ρ 69 j = σ 69 j := fun ρ e => by
        rw [e]
        exact ⟨up_eq, fun q hq => by rw [up_n hq]; exact gF q hq, fun j hj => by rw [up_nk hj]; exact gJ j hj⟩
      unfold b_X8_next_0
      rw [g7, gJ 6 (by decide), h.2.1, if_neg (nle_of_lt (by omega) (by omega)), ck_n (by omega) (by decide), nI_clamp (by omega), gF 74 (by decide), h.2.2.1 _ (by omega), nI_1]
      by_cases h32 : s (p + c) = 32
      · rw [if_pos h32, bnd_s]
        exact ⟨_, rfl, nx _ rfl⟩
      · rw [if_neg h32, ck_n (by omega) (by decide), if_pos ((of_decide_eq_true hb).resolve_left h32), bnd_s]
        exact ⟨_, rfl, nx _ rfl⟩
    · intro τ ⟨g7, gF, gJ⟩
      unfold b_X8_next_0
      rw [g7, gJ 6 (by decide), h.2.1]
      by_cases hpl : p + N < l
      · have hb : ¬ isB (s (p + N)) = true := fun z => h3 ⟨hpl, z⟩
        rw [if_neg (nle_of_lt hpl (by omega)), ck_n (by omega) (by decide), nI_clamp (by omega), gF 74 (by decide), h.2.2.1 _ hpl, if_neg (fun z => hb (decide_eq_true (Or.inl z))), ck_n (by omega) (by decide), if_neg (fun z => hb (decide_eq_true (Or.inr z)))]
        exact ⟨_, rfl, g7, gF, gJ⟩
      · rw [if_pos (le_of_le (by omega) (by omega))]
        exact ⟨_, rfl, g7, gF, gJ⟩
  obtain ⟨σ1, e1, g7, gF, gJ⟩ := hrun
  obtain ⟨q, eq⟩ : ∃ q, q = p + N := ⟨_, rfl⟩
  rw [← eq] at g7 h2 hN
  obtain ⟨σ2, q2⟩ : ∃ τ, τ = up σ1 69 8 (nI q) := ⟨_, rfl⟩
  have m2 : MTP s l σ2 := h.fr (by rw [q2, up_nk (by decide), gJ 6 (by decide)]) (by rw [q2, up_n (by decide), gF 74 (by decide)]) (by rw [q2, up_n (by decide), gF 77 (by decide)])
  have g27 : σ2 69 7 = nI q := by rw [q2, up_nk (by decide)]; exact g7
  obtain ⟨σ3, q3⟩ : ∃ τ, τ = up σ2 69 9 (srt s l q) := ⟨_, rfl⟩
  have g39 : σ3 69 9 = srt s l q := by rw [q3, up_eq]
  have g37 : σ3 69 7 = nI q := by rw [q3, up_nk (by decide)]; exact g27
  have m3 : MTP s l σ3 := m2.fr (by rw [q3, up_nk (by decide)]) (by rw [q3, up_n (by decide)]) (by rw [q3, up_n (by decide)])
  have fr3 : (∀ z, z ≠ 69 → σ3 z = σ z) ∧ ∀ j, j ≠ 7 → j ≠ 8 → j ≠ 9 → σ3 69 j = σ 69 j := ⟨fun z hz => by rw [q3, up_n hz, q2, up_n hz]; exact gF z hz, fun j a b c => by rw [q3, up_nk c, q2, up_nk b]; exact gJ j a⟩
  have g38 : σ3 69 8 = nI q := by rw [q3, up_nk (by decide), q2, up_eq]
  unfold f_X8_next
  rw [e1, bd1_s, g7, bnd_s, ← q2, g27, sortAt_m m2 h2, bd1_s, bnd_s, ← q3, g39, hN]
  by_cases hql : q < l
  · -- what goes on
    have hcut : ∀ M, Et s l q = q + 1 + M → (∀ c, c < M → srt s l (q + 1 + c) = srt s l q ∧ ¬ 3 ≤ srt s l q ∧ q + 1 + c < l) → (3 ≤ srt s l q ∨ ¬ srt s l (q + 1 + M) = srt s l q) → q + 1 + M ≤ l → ¬ srt s l q ≤ 0 → ∃ τ, (if srt s l q ≤ 0 then some σ3 else bnd (up σ3 69 7 ((σ3 69 7) + 1)) (fun σ19 => bd1 (itr (fun q => b_X8_next_89 q) lfu σ19) (fun σ28 => some σ28))) = some τ ∧ MTP s l τ ∧ τ 69 8 = nI q ∧ τ 69 7 = nI (Et s l q) ∧ τ 69 9 = srt s l q ∧ (∀ z, z ≠ 69 → τ z = σ z) ∧ ∀ j, j ≠ 7 → j ≠ 8 → j ≠ 9 → τ 69 j = σ 69 j := by
      intro M hE hgo hst hM hn0
      obtain ⟨σ4, q4⟩ : ∃ τ, τ = up σ3 69 7 (nI (q + 1)) := ⟨_, rfl⟩
      have hr2 : ∃ r, itr (fun q => b_X8_next_89 q) lfu σ4 = some r ∧ (r 69 7 = nI (q + 1 + M) ∧ (∀ z, z ≠ 69 → r z = σ3 z) ∧ ∀ j, j ≠ 7 → r 69 j = σ3 69 j) := by
        refine itr_run (f := fun q => b_X8_next_89 q) (I := fun c τ => τ 69 7 = nI (q + 1 + c) ∧ (∀ z, z ≠ 69 → τ z = σ3 z) ∧ ∀ j, j ≠ 7 → τ 69 j = σ3 69 j) (R := fun r => r 69 7 = nI (q + 1 + M) ∧ (∀ z, z ≠ 69 → r z = σ3 z) ∧ ∀ j, j ≠ 7 → r 69 j = σ3 69 j) M (a := σ4) ⟨by rw [q4, up_eq], fun z hz => by rw [q4, up_n hz], fun j hj => by rw [q4, up_nk hj]⟩ ?_ ?_ (by omega)
        · intro c hc τ ⟨k7, kF, kJ⟩
          obtain ⟨c1, c2, c3⟩ := hgo c hc
          have mτ : MTP s l τ := m3.fr (kJ 6 (by decide)) (kF 74 (by decide)) (kF 77 (by decide))
          unfold b_X8_next_89
          rw [kJ 9 (by decide), g39, if_neg c2, k7, sortAt_m mτ (by omega), bd1_s, if_pos c1, bnd_s, nI_1]
          exact ⟨_, rfl, up_eq, fun z hz => by rw [up_n hz]; exact kF z hz, fun j hj => by rw [up_nk hj]; exact kJ j hj⟩
        · intro τ ⟨k7, kF, kJ⟩
          have mτ : MTP s l τ := m3.fr (kJ 6 (by decide)) (kF 74 (by decide)) (kF 77 (by decide))
          unfold b_X8_next_89
          rw [kJ 9 (by decide), g39]
          by_cases h3' : 3 ≤ srt s l q
          · rw [if_pos h3']
            exact ⟨_, rfl, k7, kF, kJ⟩
          · rw [if_neg h3', k7, sortAt_m mτ hM, bd1_s, if_neg (hst.resolve_left h3')]
            exact ⟨_, rfl, k7, kF, kJ⟩
      obtain ⟨τ, e5, k7, kF, kJ⟩ := hr2
      refine ⟨τ, ?_, m3.fr (kJ 6 (by decide)) (kF 74 (by decide)) (kF 77 (by decide)), by rw [kJ 8 (by decide)]; exact g38, by rw [k7, hE], by rw [kJ 9 (by decide)]; exact g39, fun z hz => by rw [kF z hz]; exact fr3.1 z hz, fun j a b c => by rw [kJ j a]; exact fr3.2 j a b c⟩
      rw [if_neg hn0, g37, nI_1, bnd_s, ← q4, e5, bd1_s]
    obtain ⟨r1, r2⟩ := endt_rng s l hql
    have hEt : Et s l q = endt s l q := by unfold Et; rw [if_pos hql]
    rcases srt_v (s := s) (l := l) q with ⟨hs, hz⟩ | ⟨hs, _, hL⟩ | ⟨hs, _, hL, hD⟩ | ⟨hs, _, hL, hD⟩
    · exact absurd hql hz
    · have ee : endt s l q = rnl (fun j => isL (s j)) l (q + 1) := by unfold endt; rw [if_pos hL]
      obtain ⟨_, _, b3, b4⟩ := rnl_rng (fun j => isL (s j)) (l := l) (p := q + 1) (by omega)
      rw [← ee] at b3 b4
      obtain ⟨M, hM⟩ : ∃ M, endt s l q = q + 1 + M := ⟨endt s l q - (q + 1), by omega⟩
      rw [hM] at b3 b4
      refine hcut M (by rw [hEt, hM]) (fun c hc => ⟨by rw [hs]; exact srt_1.mpr ⟨by omega, b4 _ (by omega) (by omega)⟩, by rw [hs]; decide, by omega⟩) (Or.inr (fun z => ?_)) (by omega) (by rw [hs]; decide)
      rw [hs] at z
      exact b3 (srt_1.mp z)
    · have ee : endt s l q = rnl (fun j => isD (s j)) l (q + 1) := by unfold endt; rw [if_neg hL, if_pos hD]
      obtain ⟨_, _, b3, b4⟩ := rnl_rng (fun j => isD (s j)) (l := l) (p := q + 1) (by omega)
      rw [← ee] at b3 b4
      obtain ⟨M, hM⟩ : ∃ M, endt s l q = q + 1 + M := ⟨endt s l q - (q + 1), by omega⟩
      rw [hM] at b3 b4
      refine hcut M (by rw [hEt, hM]) (fun c hc => ⟨by rw [hs]; exact (srt_2 DL).mpr ⟨by omega, b4 _ (by omega) (by omega)⟩, by rw [hs]; decide, by omega⟩) (Or.inr (fun z => ?_)) (by omega) (by rw [hs]; decide)
      rw [hs] at z
      exact b3 ((srt_2 DL).mp z)
    · have ee : endt s l q = q + 1 := by unfold endt; rw [if_neg hL, if_neg hD]
      exact hcut 0 (by rw [hEt, ee]) (fun c hc => absurd hc (Nat.not_lt_zero _)) (Or.inl (by rw [hs]; decide)) (by omega) (by rw [hs]; decide)
  · have hs : srt s l q = 0 := by unfold srt; rw [if_neg hql]
    rw [hs, if_pos (by decide)]
    refine ⟨σ3, rfl, m3, g38, ?_, by rw [g39, hs], fr3⟩
    unfold Et
    rw [if_neg hql, g37]
    congr 1; omega
end MtokB

/-! copy: of one sheet's row into another's -/
theorem shSz {σ : sg_T} (hS : SHR σ) {s : Nat} (hs : s < 4) : ∃ L, L ≤ 40 ∧ σ 85 s = nI L ∧ σ (61 + 2 * s) 2 = nI L ∧ σ (61 + 2 * s) 1 = σ 84 s ∧ ∀ j, j < L → σ (61 + 2 * s + 1) j = σ 86 (40 * s + j) := by
  obtain ⟨s1, s2, s3, s4, s5⟩ := hS s hs
  have hLx : ∃ L, L ≤ 40 ∧ σ 85 s = nI L := by
    unfold inr at s4
    exact ⟨(σ 85 s).toInt.toNat, by omega, Int32.toInt_inj.mp (by rw [nI_toInt (by omega)]; omega)⟩
  obtain ⟨L, hL, eL⟩ := hLx
  refine ⟨L, hL, eL, by rw [s2, eL], s1, fun j hj => s5 j ?_⟩
  rw [eL, nI_toInt (by omega)]; omega
theorem rng_cases {σ : sg_T} {o L : Nat} (hL : L ≤ 40) (h : σ o 2 = nI L) (x y : Int32) : (∃ i k, i + k ≤ L ∧ x = nI i ∧ y = nI k ∧ f_X4_hasRange o x y σ = some 1) ∨ (f_X4_hasRange o x y σ = some 0 ∧ (x < 0 ∨ y < 0 ∨ nI L - x < y)) := by
  have e0 : (0 : Int32).toInt = 0 := by decide
  have eL := nI_toInt (n := L) (by omega)
  have bx := Int32.toInt_lt x
  have by1 := Int32.toInt_lt y
  unfold f_X4_hasRange
  by_cases x0 : x < 0
  · right; rw [if_pos x0]; exact ⟨rfl, Or.inl x0⟩
  · by_cases y0 : y < 0
    · right; rw [if_neg x0, if_pos y0]; exact ⟨rfl, Or.inr (Or.inl y0)⟩
    · rw [if_neg x0, if_neg y0, h]
      rw [Int32.lt_iff_toInt_lt] at x0 y0
      have es : (nI L - x).toInt = L - x.toInt := by rw [sub_toInt (by omega) (by omega)]; omega
      by_cases x1 : nI L < x
      · right; rw [if_pos x1]
        refine ⟨rfl, Or.inr (Or.inr ?_)⟩
        rw [Int32.lt_iff_toInt_lt] at x1 ⊢; omega
      · by_cases y1 : nI L - x < y
        · right; rw [if_neg x1, if_pos y1, bnd_s, cz_0]
          exact ⟨rfl, Or.inr (Or.inr y1)⟩
        · left; rw [if_neg x1, if_neg y1, bnd_s, cz_1]
          rw [Int32.lt_iff_toInt_lt] at x1 y1
          exact ⟨x.toInt.toNat, y.toInt.toNat, by omega, Int32.toInt_inj.mp (by rw [nI_toInt (by omega)]; omega), Int32.toInt_inj.mp (by rw [nI_toInt (by omega)]; omega), rfl⟩
theorem cpd_w {σ : sg_T} {q0 q1 i j k p : Nat} (hi : i ≤ 40) (hj : j ≤ 40) (hk : k ≤ 40) : cpd σ q0 q1 (nI i) (nI j) (nI k) q1 p = if j ≤ p ∧ p < j + k then σ q0 (i + (p - j)) else σ q1 p := by
  unfold cpd
  rw [upr_s, nI_clamp (by omega), nI_clamp (by omega), nI_clamp (by omega)]
  rfl
theorem copy_105 (σ : sg_T) {s i t j k : Nat} (hs : s < 4) (hi : i + k ≤ 40) : ∃ r, itr (fun q => b_X8_copy_105 (nI s) (nI i) (nI t) (nI j) (nI k) q.1 q.2) lfu (0, σ) = some r ∧ ((∀ w, w < k → r.2 87 w = σ 86 (40 * s + i + w)) ∧ ∀ q, q ≠ 87 → r.2 q = σ q) := by
  refine itr_run (f := fun q => b_X8_copy_105 (nI s) (nI i) (nI t) (nI j) (nI k) q.1 q.2) (I := fun c q => q.1 = nI c ∧ (∀ w, w < c → q.2 87 w = σ 86 (40 * s + i + w)) ∧ ∀ p, p ≠ 87 → q.2 p = σ p) (R := fun r => (∀ w, w < k → r.2 87 w = σ 86 (40 * s + i + w)) ∧ ∀ q, q ≠ 87 → r.2 q = σ q) k ⟨rfl, fun w hw => absurd hw (Nat.not_lt_zero _), fun _ _ => rfl⟩ ?_ ?_ (by omega)
  · intro c hc ⟨w, τ⟩ ⟨hw, hI, hF⟩
    dsimp only at hw hI hF ⊢
    subst hw
    have e1 : (40 : Int32) * nI s + nI i + nI c = nI (40 * s + i + c) := by
      rw [show (40 : Int32) = nI 40 from rfl, pk_mul, nI_add, nI_add]
    refine ⟨(nI (c + 1), up τ 87 c (τ 86 (40 * s + i + c))), ?_, rfl, fun w hw => ?_, fun p hp => by dsimp only; rw [up_n hp]; exact hF p hp⟩
    · unfold b_X8_copy_105
      rw [if_neg (nle_of_lt hc (by omega)), e1, ck_n (by omega) (by decide), ck_n (by omega) (by decide), nI_clamp (by omega), nI_clamp (by omega), bnd_s, bnd_s, nI_1]
    · dsimp only
      by_cases hwc : w = c
      · subst hwc; rw [up_eq, hF 86 (by decide)]
      · rw [up_nk hwc]; exact hI w (by omega)
  · intro ⟨w, τ⟩ ⟨hw, hI, hF⟩
    dsimp only at hw hI hF ⊢
    subst hw
    refine ⟨(nI k, τ), ?_, hI, hF⟩
    unfold b_X8_copy_105
    rw [if_pos (Int32.le_refl _)]
theorem copy_142 (σ : sg_T) {s i t j k : Nat} (ht : t < 4) (hj : j + k ≤ 40) : ∃ r, itr (fun q => b_X8_copy_142 (nI s) (nI i) (nI t) (nI j) (nI k) q.1 q.2) lfu (0, σ) = some r ∧ ((∀ p, r.2 86 p = if 40 * t + j ≤ p ∧ p < 40 * t + j + k then σ 87 (p - (40 * t + j)) else σ 86 p) ∧ ∀ q, q ≠ 86 → r.2 q = σ q) := by
  refine itr_run (f := fun q => b_X8_copy_142 (nI s) (nI i) (nI t) (nI j) (nI k) q.1 q.2) (I := fun c q => q.1 = nI c ∧ (∀ p, q.2 86 p = if 40 * t + j ≤ p ∧ p < 40 * t + j + c then σ 87 (p - (40 * t + j)) else σ 86 p) ∧ ∀ p, p ≠ 86 → q.2 p = σ p) (R := fun r => (∀ p, r.2 86 p = if 40 * t + j ≤ p ∧ p < 40 * t + j + k then σ 87 (p - (40 * t + j)) else σ 86 p) ∧ ∀ q, q ≠ 86 → r.2 q = σ q) k ⟨rfl, fun p => by rw [if_neg (by omega)], fun _ _ => rfl⟩ ?_ ?_ (by omega)
  · intro c hc ⟨w, τ⟩ ⟨hw, hI, hF⟩
    dsimp only at hw hI hF ⊢
    subst hw
    have e1 : (40 : Int32) * nI t + nI j + nI c = nI (40 * t + j + c) := by
      rw [show (40 : Int32) = nI 40 from rfl, pk_mul, nI_add, nI_add]
    refine ⟨(nI (c + 1), up τ 86 (40 * t + j + c) (τ 87 c)), ?_, rfl, fun p => ?_, fun p hp => by dsimp only; rw [up_n hp]; exact hF p hp⟩
    · unfold b_X8_copy_142
      rw [if_neg (nle_of_lt hc (by omega)), e1, ck_n (by omega) (by decide), ck_n (by omega) (by decide), nI_clamp (by omega), nI_clamp (by omega), bnd_s, bnd_s, nI_1]
    · dsimp only
      by_cases hp : p = 40 * t + j + c
      · subst hp
        rw [up_eq, if_pos (by omega), hF 87 (by decide)]
        congr 1; omega
      · rw [up_nk hp, hI p]
        by_cases hq : 40 * t + j ≤ p ∧ p < 40 * t + j + c
        · rw [if_pos hq, if_pos (by omega)]
        · rw [if_neg hq, if_neg (by omega)]
  · intro ⟨w, τ⟩ ⟨hw, hI, hF⟩
    dsimp only at hw hI hF ⊢
    subst hw
    refine ⟨(nI k, τ), ?_, hI, hF⟩
    unfold b_X8_copy_142
    rw [if_pos (Int32.le_refl _)]
theorem m_copy_no {σ : sg_T} {s t L M : Nat} (hs : s < 4) (ht : t < 4) (e1 : σ 85 s = nI L) (e2 : σ 85 t = nI M) (q1 : ¬ σ 84 s = -1) (q2 : ¬ σ 84 t = -1) (q3 : σ 84 s = σ 84 t) {x y z : Int32} (h : x < 0 ∨ y < 0 ∨ z < 0 ∨ nI L - x < z ∨ nI M - y < z) : f_X8_copy (nI s) x (nI t) y z σ = some (-12, σ) := by
  have ck4 : ∀ {β : Type} (r : Option β), ck (nI s) 4 r = r := fun r => ck_n hs (by decide)
  have dk4 : ∀ {β : Type} (r : Option β), ck (nI t) 4 r = r := fun r => ck_n ht (by decide)
  unfold f_X8_copy
  rw [isSheet_m1 hs, bd1_s, if_neg (by decide), isSheet_m1 ht, bd1_s, if_neg (by decide), ck4, nI_clamp (by omega), if_neg q1, dk4, nI_clamp (by omega), if_neg q2, ck4, dk4, if_pos q3]
  by_cases h1 : z < 0
  · rw [if_pos h1]
  · rw [if_neg h1]
    by_cases h2 : x < 0
    · rw [if_pos h2]
    · rw [if_neg h2]
      by_cases h3 : y < 0
      · rw [if_pos h3]
      · rw [if_neg h3, ck4, e1]
        by_cases h4 : nI L - x < z
        · rw [if_pos h4]
        · rw [if_neg h4, dk4, e2, if_neg (Int32.not_le.mpr ((((h.resolve_left h2).resolve_left h3).resolve_left h1).resolve_left h4))]
theorem sm_copy (x1 x2 x3 x4 x5 : Int32) : SM (f_X7_copy x1 x2 x3 x4 x5) (f_X8_copy x1 x2 x3 x4 x5) := by
  intro σ ⟨a, m, d, ru, T, n, h⟩
  have hW := h
  obtain ⟨hC, hM, hok, hd, hru, hTC, hTM, hO, hI, hTp, hS, hH⟩ := h
  rcases shx x1 with ⟨s, hs, rfl⟩ | hx
  · rcases shx x3 with ⟨t, ht, rfl⟩ | hy
    · obtain ⟨L, hL, e1, e2, e3, e4⟩ := shSz hS hs
      obtain ⟨M, hM4, g1, g2, g3, g4⟩ := shSz hS ht
      have ck4 : ∀ {β : Type} (r : Option β), ck (nI s) 4 r = r := fun r => ck_n hs (by decide)
      have dk4 : ∀ {β : Type} (r : Option β), ck (nI t) 4 r = r := fun r => ck_n ht (by decide)
      have cl : (nI s).toNatClampNeg = s := nI_clamp (by omega)
      have dl : (nI t).toNatClampNeg = t := nI_clamp (by omega)
      by_cases q1 : σ 84 s = -1
      · have ms : f_X4_isMissing (61 + 2 * s) σ = some 1 := by unfold f_X4_isMissing; rw [e3, if_pos q1, bnd_s, cz_1]
        refine ⟨-11, σ, σ, ?_, ?_, a, m, d, ru, T, n, hW⟩
        · unfold f_X7_copy
          rw [isSheet_c1 hs, bd1_s, if_neg (by decide), isSheet_c1 ht, bd1_s, if_neg (by decide), ck4, dk4, cl, ms, bd1_s, if_neg (by decide)]
        · unfold f_X8_copy
          rw [isSheet_m1 hs, bd1_s, if_neg (by decide), isSheet_m1 ht, bd1_s, if_neg (by decide), ck4, cl, if_pos q1]
      · have ms : f_X4_isMissing (61 + 2 * s) σ = some 0 := by unfold f_X4_isMissing; rw [e3, if_neg q1, bnd_s, cz_0]
        by_cases q2 : σ 84 t = -1
        · have mt : f_X4_isMissing (61 + 2 * t) σ = some 1 := by unfold f_X4_isMissing; rw [g3, if_pos q2, bnd_s, cz_1]
          refine ⟨-11, σ, σ, ?_, ?_, a, m, d, ru, T, n, hW⟩
          · unfold f_X7_copy
            rw [isSheet_c1 hs, bd1_s, if_neg (by decide), isSheet_c1 ht, bd1_s, if_neg (by decide), ck4, dk4, cl, dl, ms, bd1_s, if_pos rfl, mt, bd1_s, if_neg (by decide)]
          · unfold f_X8_copy
            rw [isSheet_m1 hs, bd1_s, if_neg (by decide), isSheet_m1 ht, bd1_s, if_neg (by decide), ck4, cl, dl, if_neg q1, dk4, if_pos q2]
        · have mt : f_X4_isMissing (61 + 2 * t) σ = some 0 := by unfold f_X4_isMissing; rw [g3, if_neg q2, bnd_s, cz_0]
          have so : f_X4_sort (61 + 2 * s) σ = some (σ 84 s) := by unfold f_X4_sort; rw [e3]
          have to : f_X4_sort (61 + 2 * t) σ = some (σ 84 t) := by unfold f_X4_sort; rw [g3]
          by_cases q3 : σ 84 s = σ 84 t
          · rcases rng_cases hL e2 x2 x5 with ⟨i, k, hik, rfl, rfl, r1⟩ | ⟨r1, hb⟩
            · rcases rng_cases hM4 g2 x4 (nI k) with ⟨j, k', hjk, rfl, ek, r2⟩ | ⟨r2, hb⟩
              · have ekk : k' = k := nI_inj (by omega) (by omega) ek.symm
                subst ekk
                obtain ⟨σ1, e5⟩ : ∃ τ, τ = cpd σ (61 + 2 * s + 1) (61 + 2 * t + 1) (nI i) (nI j) (nI k') := ⟨_, rfl⟩
                have f1 : ∀ q, q ≠ 61 + 2 * t + 1 → σ1 q = σ q := fun q hq => by rw [e5]; exact cpd_ne hq
                obtain ⟨⟨w1, σ2⟩, e6, h6, f6⟩ := copy_105 σ1 (s := s) (i := i) (t := t) (j := j) (k := k') hs (by omega)
                obtain ⟨⟨w2, σ3⟩, e7, h7, f7⟩ := copy_142 σ2 (s := s) (i := i) (t := t) (j := j) (k := k') ht (by omega)
                dsimp only at h6 f6 h7 f7
                have f : ∀ q, q ≠ 61 + 2 * t + 1 → q ≠ 86 → q ≠ 87 → σ3 q = σ q := fun q a1 a2 a3 => by rw [f7 q a2, f6 q a3, f1 q a1]
                refine ⟨nI k', σ1, σ3, ?_, ?_, a, m, d, ru, T, n, hW.sheets (fun u hu => ?_) (fun q h1 h2 h3 => f q (by omega) (by omega) (by unfold kp at h1; omega))⟩
                · have tk : f_X4_takeFrom (61 + 2 * t) (61 + 2 * s) (nI i) (nI j) (nI k') σ = some σ1 := by
                    have hcy : ∀ {β : Type} (r : Option β), cy (nI i) (nI j) (nI k') 40 40 r = r := fun r => by
                      unfold cy
                      rw [nI_clamp (by omega), nI_clamp (by omega), nI_clamp (by omega), if_neg]
                      intro hh
                      rcases hh with hh | hh | hh | hh | hh
                      · exact nI_pos (by omega) hh
                      · exact nI_pos (by omega) hh
                      · exact nI_pos (by omega) hh
                      · omega
                      · omega
                    unfold f_X4_takeFrom
                    rw [r1, bd1_s, if_neg (by decide), r2, bd1_s, if_neg (by decide), hcy, bnd_s, e5]
                  unfold f_X7_copy
                  rw [isSheet_c1 hs, bd1_s, if_neg (by decide), isSheet_c1 ht, bd1_s, if_neg (by decide), ck4, dk4, cl, dl, ms, bd1_s, if_pos rfl, mt, bd1_s, if_pos rfl, so, bd1_s, to, bd1_s, if_pos q3, r1, bd1_s, if_neg (by decide), r2, bd1_s, if_neg (by decide), tk, bd1_s]
                · have k1 : ¬ nI L - nI i < nI k' := by
                    rw [Int32.lt_iff_toInt_lt, pk_sub_toInt (by omega) (by omega), nI_toInt (by omega)]; omega
                  have k2 : nI k' ≤ nI M - nI j := by
                    rw [Int32.le_iff_toInt_le, pk_sub_toInt (by omega) (by omega), nI_toInt (by omega)]; omega
                  unfold f_X8_copy
                  rw [isSheet_m1 hs, bd1_s, if_neg (by decide), isSheet_m1 ht, bd1_s, if_neg (by decide), ck4, cl, dl, f1 84 (by omega), if_neg q1, dk4, if_neg q2, ck4, dk4, if_pos q3, if_neg (nI_pos (by omega)), if_neg (nI_pos (by omega)), if_neg (nI_pos (by omega)), ck4, f1 85 (by omega), e1, if_neg k1, dk4, g1, if_pos k2, e6, bd2_s, e7, bd2_s]
                · obtain ⟨u1, u2, u3, u4, u5⟩ := hS u hu
                  rw [f (61 + 2 * u) (by omega) (by omega) (by omega), f 84 (by omega) (by omega) (by omega), f 85 (by omega) (by omega) (by omega)]
                  refine ⟨u1, u2, u3, u4, fun p hp => ?_⟩
                  have hp5 := u5 p hp
                  have hp40 : p < 40 := by
                    unfold inr at u4; omega
                  rw [h7 (40 * u + p), f6 86 (by decide), f1 86 (by omega)]
                  by_cases hut : u = t
                  · subst hut
                    rw [f7 (61 + 2 * u + 1) (by omega), f6 (61 + 2 * u + 1) (by omega), e5, cpd_w (by omega) (by omega) (by omega)]
                    by_cases hj : j ≤ p ∧ p < j + k'
                    · rw [if_pos hj, if_pos (by omega), h6 _ (by omega), f1 86 (by omega), e4 _ (by omega)]
                      congr 1; omega
                    · rw [if_neg hj, if_neg (by omega)]; exact hp5
                  · rw [f (61 + 2 * u + 1) (by omega) (by omega) (by omega), if_neg (by omega)]; exact hp5
              · refine ⟨-12, σ, σ, ?_, m_copy_no hs ht e1 g1 q1 q2 q3 ?_, a, m, d, ru, T, n, hW⟩
                · unfold f_X7_copy
                  rw [isSheet_c1 hs, bd1_s, if_neg (by decide), isSheet_c1 ht, bd1_s, if_neg (by decide), ck4, dk4, cl, dl, ms, bd1_s, if_pos rfl, mt, bd1_s, if_pos rfl, so, bd1_s, to, bd1_s, if_pos q3, r1, bd1_s, if_neg (by decide), r2, bd1_s, if_pos rfl]
                · rcases hb with hb | hb | hb
                  · exact Or.inr (Or.inl hb)
                  · exact Or.inr (Or.inr (Or.inl hb))
                  · exact Or.inr (Or.inr (Or.inr (Or.inr hb)))
            · refine ⟨-12, σ, σ, ?_, m_copy_no hs ht e1 g1 q1 q2 q3 ?_, a, m, d, ru, T, n, hW⟩
              · unfold f_X7_copy
                rw [isSheet_c1 hs, bd1_s, if_neg (by decide), isSheet_c1 ht, bd1_s, if_neg (by decide), ck4, dk4, cl, dl, ms, bd1_s, if_pos rfl, mt, bd1_s, if_pos rfl, so, bd1_s, to, bd1_s, if_pos q3, r1, bd1_s, if_pos rfl]
              · rcases hb with hb | hb | hb
                · exact Or.inl hb
                · exact Or.inr (Or.inr (Or.inl hb))
                · exact Or.inr (Or.inr (Or.inr (Or.inl hb)))
          · refine ⟨-13, σ, σ, ?_, ?_, a, m, d, ru, T, n, hW⟩
            · unfold f_X7_copy
              rw [isSheet_c1 hs, bd1_s, if_neg (by decide), isSheet_c1 ht, bd1_s, if_neg (by decide), ck4, dk4, cl, dl, ms, bd1_s, if_pos rfl, mt, bd1_s, if_pos rfl, so, bd1_s, to, bd1_s, if_neg q3]
            · unfold f_X8_copy
              rw [isSheet_m1 hs, bd1_s, if_neg (by decide), isSheet_m1 ht, bd1_s, if_neg (by decide), ck4, cl, dl, if_neg q1, dk4, if_neg q2, ck4, dk4, if_neg q3]
    · refine ⟨-2, σ, σ, ?_, ?_, a, m, d, ru, T, n, hW⟩
      · unfold f_X7_copy
        rw [isSheet_c1 hs, bd1_s, if_neg (by decide), isSheet_c0 hy, bd1_s, if_pos rfl]
      · unfold f_X8_copy
        rw [isSheet_m1 hs, bd1_s, if_neg (by decide), isSheet_m0 hy, bd1_s, if_pos rfl]
  · refine ⟨-2, σ, σ, ?_, ?_, a, m, d, ru, T, n, hW⟩
    · unfold f_X7_copy
      rw [isSheet_c0 hx, bd1_s, if_pos rfl]
    · unfold f_X8_copy
      rw [isSheet_m0 hx, bd1_s, if_pos rfl]

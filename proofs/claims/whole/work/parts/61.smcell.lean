theorem whoN (x : Int32) {m : Nat} (hm : m < 2 ^ 30) : (∃ i, i < m ∧ x = nI i) ∨ (x < 0 ∨ nI m ≤ x) := by
  by_cases h0 : x < 0
  · exact Or.inr (Or.inl h0)
  · by_cases h1 : nI m ≤ x
    · exact Or.inr (Or.inr h1)
    · left
      have e0 : (0 : Int32).toInt = 0 := by decide
      rw [Int32.lt_iff_toInt_lt] at h0
      rw [Int32.le_iff_toInt_le, nI_toInt (by omega)] at h1
      refine ⟨x.toInt.toNat, by omega, Int32.toInt_inj.mp ?_⟩
      rw [nI_toInt (by omega)]; omega
theorem rng1_in {σ : sg_T} {o L j : Nat} (hL : L ≤ 40) (h : σ o 2 = nI L) (hj : j < L) : f_X4_hasRange o (nI j) 1 σ = some 1 := by
  have e1 : (1 : Int32).toInt = 1 := by decide
  have n1 : ¬ nI L < nI j := by rw [Int32.lt_iff_toInt_lt, nI_toInt (by omega), nI_toInt (by omega)]; omega
  have n2 : ¬ nI L - nI j < 1 := by rw [Int32.lt_iff_toInt_lt, pk_sub_toInt (by omega) (by omega)]; omega
  unfold f_X4_hasRange
  rw [if_neg (nI_pos (by omega)), if_neg (by decide), h, if_neg n1, if_neg n2, bnd_s, cz_1]
theorem rng1_out {σ : sg_T} {o L : Nat} (hL : L ≤ 40) (h : σ o 2 = nI L) {x : Int32} (hx : x < 0 ∨ nI L ≤ x) : f_X4_hasRange o x 1 σ = some 0 := by
  have e1 : (1 : Int32).toInt = 1 := by decide
  unfold f_X4_hasRange
  by_cases x0 : x < 0
  · rw [if_pos x0]
  · have hx1 := hx.resolve_left x0
    rw [if_neg x0, if_neg (by decide), h]
    by_cases x1 : nI L < x
    · rw [if_pos x1]
    · have n2 : nI L - x < 1 := by
        rw [Int32.le_iff_toInt_le] at hx1
        rw [Int32.lt_iff_toInt_lt] at x1 ⊢
        have eL := nI_toInt (n := L) (by omega)
        rw [sub_toInt (by omega) (by omega)]; omega
      rw [if_neg x1, if_pos n2, bnd_s, cz_0]
theorem sm_cell (x y z : Int32) : SM (f_X7_cell x y z) (f_X8_cell x y z) := by
  intro σ ⟨a, m, d, ru, T, n, h⟩
  have hW := h
  obtain ⟨hC, hM, hok, hd, hru, hTC, hTM, hO, hI, hTp, hS, hH⟩ := h
  rcases shx x with ⟨s, hs, rfl⟩ | hx
  · obtain ⟨s1, s2, s3, s4, s5⟩ := hS s hs
    have ck4 : ∀ {β : Type} (r : Option β), ck (nI s) 4 r = r := fun r => ck_n hs (by decide)
    have cl : (nI s).toNatClampNeg = s := nI_clamp (by omega)
    have hLx : ∃ L, L ≤ 40 ∧ σ 85 s = nI L := by
      unfold inr at s4
      exact ⟨(σ 85 s).toInt.toNat, by omega, Int32.toInt_inj.mp (by rw [nI_toInt (by omega)]; omega)⟩
    obtain ⟨L, hL, eL⟩ := hLx
    rw [eL] at s2
    by_cases q1 : σ 84 s = -1
    · have ms : f_X4_isMissing (61 + 2 * s) σ = some 1 := by unfold f_X4_isMissing; rw [s1, if_pos q1, bnd_s, cz_1]
      refine ⟨-11, σ, σ, ?_, ?_, a, m, d, ru, T, n, hW⟩
      · unfold f_X7_cell
        rw [isSheet_c1 hs, bd1_s, if_neg (by decide), ck4, cl, ms, bd1_s, if_neg (by decide)]
      · unfold f_X8_cell
        rw [isSheet_m1 hs, bd1_s, if_neg (by decide), ck4, cl, if_pos q1]
    · have ms : f_X4_isMissing (61 + 2 * s) σ = some 0 := by unfold f_X4_isMissing; rw [s1, if_neg q1, bnd_s, cz_0]
      rcases whoN y (m := L) (by omega) with ⟨j, hj, rfl⟩ | hy
      · -- what is written
        have wr : ∀ v, f_X4_put (61 + 2 * s) (nI j) z σ = some (up σ (61 + 2 * s + 1) j v) → (∀ τ, τ 84 = σ 84 → τ 85 = σ 85 → f_X8_cell (nI s) (nI j) z τ = some (1, up τ 86 (40 * s + j) v)) → ∃ r σ1 σ2, f_X7_cell (nI s) (nI j) z σ = some (r, σ1) ∧ f_X8_cell (nI s) (nI j) z σ1 = some (r, σ2) ∧ WRL σ2 := fun v hp hm => by
          refine ⟨1, up σ (61 + 2 * s + 1) j v, up (up σ (61 + 2 * s + 1) j v) 86 (40 * s + j) v, ?_, hm _ (up_n (by omega)) (up_n (by omega)), a, m, d, ru, T, n, hW.sheets (hS.put hs (by omega) v) (fun q _ h2 h3 => by rw [up_n (by omega), up_n (by omega)])⟩
          unfold f_X7_cell
          rw [isSheet_c1 hs, bd1_s, if_neg (by decide), ck4, cl, ms, bd1_s, if_pos rfl, rng1_in hL s2 hj, bd1_s, if_neg (by decide), hp, bd1_s]
        have e40 : (40 : Int32) * nI s + nI j = nI (40 * s + j) := by
          rw [show (40 : Int32) = nI 40 from rfl, pk_mul, nI_add]
        have hin : ∀ τ, f_X8_isIn (nI j) 0 (nI L - 1) τ = some 1 := fun τ => by
          refine isIn_1 (nI_pos' (by omega)) ?_
          rw [Int32.le_iff_toInt_le, n_1, pk_sub_toInt (by omega) (by decide), nI_toInt (by omega)]; omega
        have p0 : ∀ v, f_X4_put (61 + 2 * s) (nI j) z σ = (if σ 84 s = 0 then ck (nI j) 40 (bnd (up σ (61 + 2 * s + 1) (nI j).toNatClampNeg z.toInt8.toInt32) (fun σ12 => some σ12)) else if σ 84 s = 1 then ck (nI j) 40 (bnd (up σ (61 + 2 * s + 1) (nI j).toNatClampNeg z.toInt16.toInt32) (fun σ9 => some σ9)) else ck (nI j) 40 (bnd (up σ (61 + 2 * s + 1) (nI j).toNatClampNeg z) (fun σ6 => some σ6))) ∨ v = (0 : Int32) := fun v => by
          left
          unfold f_X4_put
          rw [if_neg (nI_pos (by omega)), s2, if_neg (nle_of_lt hj (by omega)), s1]
        have p1 := (p0 1).resolve_right (by decide)
        rw [ck_n (by omega) (by decide), ck_n (by omega) (by decide), ck_n (by omega) (by decide), nI_clamp (by omega), bnd_s, bnd_s, bnd_s] at p1
        by_cases t0 : σ 84 s = 0
        · rw [if_pos t0] at p1
          refine wr _ p1 (fun τ g1 g2 => ?_)
          unfold f_X8_cell
          rw [isSheet_m1 hs, bd1_s, if_neg (by decide), ck4, cl, g1, if_neg q1, ck4, g2, eL, hin, bd1_s, if_neg (by decide), ck4, if_pos t0, e40, ck_n (by omega) (by decide), nI_clamp (by omega), bnd_s]
        · rw [if_neg t0] at p1
          by_cases t1 : σ 84 s = 1
          · rw [if_pos t1] at p1
            refine wr _ p1 (fun τ g1 g2 => ?_)
            unfold f_X8_cell
            rw [isSheet_m1 hs, bd1_s, if_neg (by decide), ck4, cl, g1, if_neg q1, ck4, g2, eL, hin, bd1_s, if_neg (by decide), ck4, if_neg t0, ck4, if_pos t1, e40, ck_n (by omega) (by decide), nI_clamp (by omega), bnd_s]
          · rw [if_neg t1] at p1
            refine wr _ p1 (fun τ g1 g2 => ?_)
            unfold f_X8_cell
            rw [isSheet_m1 hs, bd1_s, if_neg (by decide), ck4, cl, g1, if_neg q1, ck4, g2, eL, hin, bd1_s, if_neg (by decide), ck4, if_neg t0, ck4, if_neg t1, e40, ck_n (by omega) (by decide), nI_clamp (by omega), bnd_s]
      · refine ⟨-12, σ, σ, ?_, ?_, a, m, d, ru, T, n, hW⟩
        · unfold f_X7_cell
          rw [isSheet_c1 hs, bd1_s, if_neg (by decide), ck4, cl, ms, bd1_s, if_pos rfl, rng1_out hL s2 hy, bd1_s, if_pos rfl]
        · have ho : f_X8_isIn y 0 (nI L - 1) σ = some 0 := by
            refine isIn_0 ?_
            rcases hy with hy | hy
            · exact Or.inl hy
            · right
              rw [Int32.le_iff_toInt_le, nI_toInt (by omega)] at hy
              rw [Int32.lt_iff_toInt_lt, n_1, pk_sub_toInt (by omega) (by decide)]; omega
          unfold f_X8_cell
          rw [isSheet_m1 hs, bd1_s, if_neg (by decide), ck4, cl, if_neg q1, ck4, eL, ho, bd1_s, if_pos rfl]
  · refine ⟨-2, σ, σ, ?_, ?_, a, m, d, ru, T, n, hW⟩
    · unfold f_X7_cell
      rw [isSheet_c0 hx, bd1_s, if_pos rfl]
    · unfold f_X8_cell
      rw [isSheet_m0 hx, bd1_s, if_pos rfl]

theorem aN_ok {a : pa_T} {m : Nat} {x y z : Int32} (h : OkP a m) (hx : inr x 0 5) (hy : inr y 0 9) (hz : inr z 0 23) : OkP (aN a m x y z) (m + 1) := by
  have z0 : ∀ b : Int, 0 ≤ b → inr (0 : Int32) 0 b := fun b hb => ⟨by decide, hb⟩
  have z1 : inr (1 : Int32) 0 9 := by unfold inr; decide
  intro i hi
  unfold aN
  by_cases him : i = m
  · simp only [if_pos him]
    refine ⟨hx, hy, hz, z0 99 (by decide), z0 99 (by decide), z0 9999 (by decide), fun j hj hij => ?_⟩
    rw [if_neg (by omega), if_neg (by omega), if_neg (by omega), if_neg (by omega)]
    exact z1
  · simp only [if_neg him]
    obtain ⟨h0, h1, h2, h3, h4, h5, h6⟩ := h i (by omega)
    rw [if_neg (by omega), if_neg (by omega), if_neg (by omega), if_neg (by omega), if_neg (by omega), if_neg (by omega)]
    refine ⟨h0, h1, h2, h3, h4, h5, fun j hj hij => ?_⟩
    by_cases hjm : j = m
    · rw [if_pos (by omega)]; exact z1
    · rw [if_neg (by omega)]; exact h6 j (by omega) hij
theorem come_c {σ : sg_T} {a : pa_T} {m : Nat} {d ru : Int32} (h : PC σ 34 a m d ru) (hm : m < 5) {x y z : Int32} (x0 : ¬ x < 0) (x1 : ¬ 6 ≤ x) (y0 : ¬ y < 0) (y1 : ¬ 9 < y) (z0 : ¬ z < 0) (z1 : z < 24) : ∃ τ, f_X7_person x y z σ = some (nI m, τ) ∧ PC τ 34 (aN a m x y z) (m + 1) d ru ∧ ∀ q, ¬ (34 ≤ q ∧ q ≤ 41) → τ q = σ q := by
  obtain ⟨h1, h2, h3, h4, h5, h6, h7⟩ := h
  have ck5 : ∀ {β : Type} (r : Option β), ck (nI m) 5 r = r := fun r => ck_n hm (by decide)
  have ck1 : ∀ {β : Type} (r : Option β), ck 1 7 r = r := fun r => ck_n (i := 1) (by decide) (by decide)
  have c9 : c_hi 1 = 9 := by decide
  have m5 : nI m < 5 := Int32.not_le.mp (nle_of_lt (m := 5) hm (by decide))
  obtain ⟨⟨w, τ⟩, e1, g1, g2⟩ := come_loop (up (up (up (up (up (up (up σ 34 7 (nI (m + 1))) (34 + 1) m x) (34 + 2) m y) (34 + 3) m z) (34 + 4) m 0) (34 + 5) m 0) (34 + 6) m 0) (o := 34) hm x y z
  dsimp only at g1 g2
  refine ⟨τ, ?_, ⟨by omega, ?_, ?_, ?_, fun i hi k hk => ?_, fun i j hi hj hij => ?_, fun i hi => ?_⟩, fun q hq => ?_⟩
  · unfold f_X7_person f_X1_come
    rw [if_neg x0, if_neg x1, if_neg y0, ck1, c9, if_neg y1, if_neg z0, if_pos z1, h2, if_pos m5, bnd_s, nI_1, bnd_s, ck5, nI_clamp (by omega), bnd_s, ck5, bnd_s, ck5, bnd_s, ck5, bnd_s, ck5, bnd_s, ck5, bnd_s, e1, bd2_s, bd2_s]
  · rw [g2 34 (by decide), up_ne (by decide), up_ne (by decide), up_ne (by decide), up_ne (by decide), up_ne (by decide), up_ne (by decide), up_eq]
  · rw [g2 34 (by decide), up_ne (by decide), up_ne (by decide), up_ne (by decide), up_ne (by decide), up_ne (by decide), up_ne (by decide), up_nk (by decide)]; exact h3
  · rw [g2 34 (by decide), up_ne (by decide), up_ne (by decide), up_ne (by decide), up_ne (by decide), up_ne (by decide), up_ne (by decide), up_nk (by decide)]; exact h4
  · rw [g2 (34 + 1 + k) (by omega)]
    unfold aN
    by_cases him : i = m
    · subst him
      rw [if_pos rfl]
      rcases k with _ | _ | _ | _ | _ | _ | k
      · simp [up_at]
      · simp [up_at]
      · simp [up_at]
      · simp [up_at]
      · simp [up_at]
      · simp [up_at]
      · omega
    · rw [if_neg him, if_neg (by omega), up_nk him, up_nk him, up_nk him, up_nk him, up_nk him, up_nk him, up_ne (by omega)]
      exact h5 i (by omega) k hk
  · have s7 : ∀ p, up (up (up (up (up (up (up σ 34 7 (nI (m + 1))) (34 + 1) m x) (34 + 2) m y) (34 + 3) m z) (34 + 4) m 0) (34 + 5) m 0) (34 + 6) m 0 (34 + 7) p = σ (34 + 7) p := fun p => by
      rw [up_ne (by decide), up_ne (by decide), up_ne (by decide), up_ne (by decide), up_ne (by decide), up_ne (by decide), up_ne (by decide)]
    rw [g1 i j (by omega) (by omega), s7]
    unfold aN
    by_cases him : i = m
    · rw [if_pos (by omega), if_pos him, if_neg (by omega), if_neg (by omega), if_neg (by omega), if_neg (by omega)]
    · by_cases hjm : j = m
      · rw [if_pos (by omega), if_neg him, if_pos (by omega)]
      · rw [if_neg (by omega), if_neg him, if_neg (by omega)]
        exact h6 i j (by omega) (by omega) hij
  · rw [g1 i i hi hi, if_neg (by omega), up_ne (by decide), up_ne (by decide), up_ne (by decide), up_ne (by decide), up_ne (by decide), up_ne (by decide), up_ne (by decide)]
    exact h7 i hi
  · rw [g2 q (by omega), up_n (by omega), up_n (by omega), up_n (by omega), up_n (by omega), up_n (by omega), up_n (by omega), up_n (by omega)]
theorem come_m {σ : sg_T} {a : pa_T} {m : Nat} {d ru : Int32} (h : PM σ 70 a m d ru) (hm : m < 5) {x y z : Int32} (x0 : 0 ≤ x) (x1 : x ≤ 5) (y0 : 0 ≤ y) (y1 : y ≤ 9) (z0 : 0 ≤ z) (z1 : z ≤ 23) : ∃ τ, f_X8_person x y z σ = some (nI m, τ) ∧ PM τ 70 (aN a m x y z) (m + 1) d ru ∧ ∀ q, q ≠ 70 → τ q = σ q := by
  obtain ⟨⟨w1, σ1⟩, e1, g1, f1⟩ := pers_1 σ hm x y z
  dsimp only at g1 f1
  obtain ⟨⟨w2, σ2⟩, e2, g2, g2', f2⟩ := pers_2 (up (up (up σ1 70 (11 * m + 0) x) 70 (11 * m + 1) y) 70 (11 * m + 2) z) hm x y z
  dsimp only at g2 g2' f2
  have k55 : ∀ {β : Type} (r : Option β), ck 55 58 r = r := fun r => ck_n (i := 55) (by decide) (by decide)
  have c55 : (55 : Int32).toNatClampNeg = 55 := by decide
  have n5 : ¬ nI m = 5 := nIne (k := 5) (by omega) (by decide) (by omega)
  have c0 : ∀ v ρ, f_X8_change (nI m) 0 v ρ = some (up ρ 70 (11 * m + 0) v) := fun v ρ => chg_m (k := 0) hm (by decide) v
  have c1 : ∀ v ρ, f_X8_change (nI m) 1 v ρ = some (up ρ 70 (11 * m + 1) v) := fun v ρ => chg_m (k := 1) hm (by decide) v
  have c2 : ∀ v ρ, f_X8_change (nI m) 2 v ρ = some (up ρ 70 (11 * m + 2) v) := fun v ρ => chg_m (k := 2) hm (by decide) v
  have hi55 : ∀ p, 55 ≤ p → σ2 70 p = σ 70 p := fun p hp => by
    rw [g2' p hp, up_nk (by omega), up_nk (by omega), up_nk (by omega), g1 p, if_neg (by omega)]
  have hmany := many_m h
  have row : ∀ i k, i < m + 1 → k < 11 → σ2 70 (11 * i + k) = if i < m ∧ k = 6 + m then 1 else if i = m then (if k = 0 then x else if k = 1 then y else if k = 2 then z else if k < 6 then 0 else 1) else σ 70 (11 * i + k) := fun i k hi hk => by
    rw [g2 i k (by omega) hk]
    by_cases c : i < m ∧ k = 6 + m
    · rw [if_pos c, if_pos c]
    · rw [if_neg c, if_neg c, up_at, up_at, up_at, g1]
      by_cases him : i = m
      · subst him
        rw [if_pos rfl]
        have hr : 11 * i ≤ 11 * i + k ∧ 11 * i + k < 11 * i + 11 := by omega
        rw [if_pos hr]
        rcases k with _ | _ | _ | k
        · simp
        · simp
        · simp
        · have b2 : ¬ (70 = 70 ∧ 11 * i + (k + 1 + 1 + 1) = 11 * i + 2) := by omega
          have b1 : ¬ (70 = 70 ∧ 11 * i + (k + 1 + 1 + 1) = 11 * i + 1) := by omega
          have b0 : ¬ (70 = 70 ∧ 11 * i + (k + 1 + 1 + 1) = 11 * i + 0) := by omega
          have d0 : ¬ k + 1 + 1 + 1 = 0 := by omega
          have d1 : ¬ k + 1 + 1 + 1 = 1 := by omega
          have d2 : ¬ k + 1 + 1 + 1 = 2 := by omega
          rw [if_neg b2, if_neg b1, if_neg b0, if_neg d0, if_neg d1, if_neg d2]
          by_cases k6 : k + 1 + 1 + 1 < 6
          · have n6 : ¬ 11 * i + 6 ≤ 11 * i + (k + 1 + 1 + 1) := by omega
            rw [if_pos k6, if_neg n6]
          · have n6 : 11 * i + 6 ≤ 11 * i + (k + 1 + 1 + 1) := by omega
            rw [if_neg k6, if_pos n6]
      · have n0 : ¬ (70 = 70 ∧ 11 * i + k = 11 * m + 2) := by omega
        have n1 : ¬ (70 = 70 ∧ 11 * i + k = 11 * m + 1) := by omega
        have n2 : ¬ (70 = 70 ∧ 11 * i + k = 11 * m + 0) := by omega
        have n3 : ¬ (11 * m ≤ 11 * i + k ∧ 11 * i + k < 11 * m + 11) := by omega
        rw [if_neg n0, if_neg n1, if_neg n2, if_neg n3, if_neg him]
  obtain ⟨h1, h2, h3, h4, h5, h6⟩ := h
  refine ⟨up σ2 70 55 (nI (m + 1)), ?_, ⟨by omega, up_eq, ?_, ?_, fun i hi k hk => ?_, fun i j hi hj hij => ?_⟩, fun q hq => ?_⟩
  · unfold f_X8_person
    rw [isIn_1 x0 x1, bd1_s, if_neg (by decide), isIn_1 y0 y1, bd1_s, if_neg (by decide), isIn_1 z0 z1, bd1_s, if_neg (by decide), hmany, bd1_s, if_neg n5, bd1_s, e1, bd2_s, c0, bd1_s, c1, bd1_s, c2, bd1_s, e2, bd2_s, k55, k55, c55, hi55 55 (by decide), h2, nI_1, bnd_s]
  · rw [up_nk (by decide), hi55 56 (by decide)]; exact h3
  · rw [up_nk (by decide), hi55 57 (by decide)]; exact h4
  · rw [up_nk (by omega), row i k hi (by omega), if_neg (by omega)]
    unfold aN
    by_cases him : i = m
    · rw [if_pos him, if_pos him]
    · rw [if_neg him, if_neg him, if_neg (by omega)]
      exact h5 i (by omega) k hk
  · rw [up_nk (by omega), row i (6 + j) hi (by omega)]
    unfold aN
    by_cases him : i = m
    · rw [if_neg (by omega), if_pos him, if_pos him]
    · by_cases hjm : j = m
      · rw [if_pos (by omega), if_neg him, if_pos (by omega)]
      · rw [if_neg (by omega), if_neg him, if_neg him, if_neg (by omega)]
        exact h6 i j (by omega) (by omega) hij
  · rw [up_n hq, f2 q hq, up_n hq, up_n hq, up_n hq]; exact f1 q hq
theorem sm_person (x y z : Int32) : SM (f_X7_person x y z) (f_X8_person x y z) := by
  intro σ ⟨a, m, d, ru, T, n, h⟩
  have hW := h
  obtain ⟨hC, hM, hok, hd, hru, hTC, hTM, hO, hI, hTp, hS, hH⟩ := h
  have hm := hC.1
  have e0 : (0 : Int32).toInt = 0 := by decide
  have e5 : (5 : Int32).toInt = 5 := by decide
  have e6 : (6 : Int32).toInt = 6 := by decide
  have e9 : (9 : Int32).toInt = 9 := by decide
  have e23 : (23 : Int32).toInt = 23 := by decide
  have e24 : (24 : Int32).toInt = 24 := by decide
  have c9 : c_hi 1 = 9 := by decide
  have ck1 : ∀ {β : Type} (r : Option β), ck 1 7 r = r := fun r => ck_n (i := 1) (by decide) (by decide)
  by_cases hb : (0 ≤ x ∧ x ≤ 5) ∧ (0 ≤ y ∧ y ≤ 9) ∧ (0 ≤ z ∧ z ≤ 23)
  · obtain ⟨⟨x0, x1⟩, ⟨y0, y1⟩, z0, z1⟩ := hb
    have x6 : ¬ 6 ≤ x := by
      rw [Int32.le_iff_toInt_le] at x1 ⊢; omega
    have z24 : z < 24 := by
      rw [Int32.le_iff_toInt_le] at z1
      rw [Int32.lt_iff_toInt_lt]; omega
    by_cases h5 : m = 5
    · subst h5
      have n5 : ¬ nI 5 < 5 := by decide
      refine ⟨-4, σ, σ, ?_, ?_, a, 5, d, ru, T, n, hW⟩
      · unfold f_X7_person f_X1_come
        rw [if_neg (Int32.not_lt.mpr x0), if_neg x6, if_neg (Int32.not_lt.mpr y0), ck1, c9, if_neg (Int32.not_lt.mpr y1), if_neg (Int32.not_lt.mpr z0), if_pos z24, hC.2.1, if_neg n5, bd2_s]
      · unfold f_X8_person
        rw [isIn_1 x0 x1, bd1_s, if_neg (by decide), isIn_1 y0 y1, bd1_s, if_neg (by decide), isIn_1 z0 z1, bd1_s, if_neg (by decide), many_m hM, bd1_s, if_pos (by decide)]
    · obtain ⟨σ1, e1, hC1, f1⟩ := come_c hC (by omega) (Int32.not_lt.mpr x0) x6 (Int32.not_lt.mpr y0) (Int32.not_lt.mpr y1) (Int32.not_lt.mpr z0) z24
      have hM1 : PM σ1 70 a m d (nI ru) := hM.eq (f1 70 (by omega))
      obtain ⟨σ2, e2, hM2, f2⟩ := come_m hM1 (by omega) x0 x1 y0 y1 z0 z1
      refine ⟨nI m, σ1, σ2, e1, e2, aN a m x y z, m + 1, d, ru, T, n, hW.new (hC1.eq (fun p _ _ => f2 p (by omega))) hM2 (aN_ok hok ?_ ?_ ?_) hd hru (fun q h1 h2 h3 => by rw [f2 q h3]; exact f1 q h2)⟩
      · rw [Int32.le_iff_toInt_le] at x0 x1
        unfold inr; omega
      · rw [Int32.le_iff_toInt_le] at y0 y1
        unfold inr; omega
      · rw [Int32.le_iff_toInt_le] at z0 z1
        unfold inr; omega
  · refine ⟨-2, σ, σ, ?_, ?_, a, m, d, ru, T, n, hW⟩
    · unfold f_X7_person f_X1_come
      by_cases x0 : x < 0
      · rw [if_pos x0, bd2_s]
      · by_cases x6 : 6 ≤ x
        · rw [if_neg x0, if_pos x6, bd2_s]
        · by_cases y0 : y < 0
          · rw [if_neg x0, if_neg x6, if_pos y0, bd2_s]
          · by_cases y1 : 9 < y
            · rw [if_neg x0, if_neg x6, if_neg y0, ck1, c9, if_pos y1, bd2_s]
            · by_cases z0 : z < 0
              · rw [if_neg x0, if_neg x6, if_neg y0, ck1, c9, if_neg y1, if_pos z0, bd2_s]
              · have z24 : ¬ z < 24 := fun q => hb (by
                  rw [Int32.lt_iff_toInt_lt] at x0 y0 y1 z0 q
                  rw [Int32.le_iff_toInt_le] at x6
                  simp only [Int32.le_iff_toInt_le]; omega)
                rw [if_neg x0, if_neg x6, if_neg y0, ck1, c9, if_neg y1, if_neg z0, if_neg z24, bd2_s]
    · unfold f_X8_person
      by_cases hx : 0 ≤ x ∧ x ≤ 5
      · by_cases hy : 0 ≤ y ∧ y ≤ 9
        · have hz : z < 0 ∨ 23 < z := by
            by_cases z0 : z < 0
            · exact Or.inl z0
            · right
              exact Int32.not_le.mp (fun q => hb ⟨hx, hy, Int32.not_lt.mp z0, q⟩)
          rw [isIn_1 hx.1 hx.2, bd1_s, if_neg (by decide), isIn_1 hy.1 hy.2, bd1_s, if_neg (by decide), isIn_0 hz, bd1_s, if_pos rfl]
        · have hy2 : y < 0 ∨ 9 < y := by
            by_cases y0 : y < 0
            · exact Or.inl y0
            · right
              exact Int32.not_le.mp (fun q => hy ⟨Int32.not_lt.mp y0, q⟩)
          rw [isIn_1 hx.1 hx.2, bd1_s, if_neg (by decide), isIn_0 hy2, bd1_s, if_pos rfl]
      · have hx2 : x < 0 ∨ 5 < x := by
          by_cases x0 : x < 0
          · exact Or.inl x0
          · right
            exact Int32.not_le.mp (fun q => hx ⟨Int32.not_lt.mp x0, q⟩)
        rw [isIn_0 hx2, bd1_s, if_pos rfl]

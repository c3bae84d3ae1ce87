theorem PC.day {σ : sg_T} {o : Nat} {a : pa_T} {m : Nat} {d ru : Int32} (h : PC σ o a m d ru) (y : Int32) : PC (up σ o 8 y) o a m y ru := by
  obtain ⟨h1, h2, h3, h4, h5, h6, h7⟩ := h
  refine ⟨h1, ?_, up_eq, ?_, fun i hi k hk => ?_, fun i j hi hj hij => ?_, fun i hi => ?_⟩
  · rw [up_nk (by decide)]; exact h2
  · rw [up_nk (by decide)]; exact h4
  · rw [up_ne (by omega)]; exact h5 i hi k hk
  · rw [up_ne (by omega)]; exact h6 i j hi hj hij
  · rw [up_ne (by omega)]; exact h7 i hi
theorem PM.day {σ : sg_T} {q : Nat} {a : pa_T} {m : Nat} {d ru : Int32} (h : PM σ q a m d ru) (y : Int32) : PM (up σ q 56 y) q a m y ru := by
  obtain ⟨h1, h2, h3, h4, h5, h6⟩ := h
  refine ⟨h1, ?_, up_eq, ?_, fun i hi k hk => ?_, fun i j hi hj hij => ?_⟩
  · rw [up_nk (by decide)]; exact h2
  · rw [up_nk (by decide)]; exact h4
  · rw [up_nk (by omega)]; exact h5 i hi k hk
  · rw [up_nk (by omega)]; exact h6 i j hi hj hij
theorem chi_t : ∀ k, 0 < k → k < 7 → (c_hi (nI k)).toInt = hiK k := by
  intro k h0 h7
  rcases k with _ | _ | _ | _ | _ | _ | _ | k
  · omega
  · decide
  · decide
  · decide
  · decide
  · decide
  · decide
  · omega
theorem m_set_no {σ : sg_T} {x y z : Int32} (h : (x < 0 ∨ 6 < x)) : f_X8_set x y z σ = some (-2, σ) := by
  unfold f_X8_set
  rw [isIn_0 h, bd1_s, if_pos rfl]
theorem m_set_z {σ : sg_T} (hH : HIG σ) {w : Nat} (hw : w < 7) {y z : Int32} (h : z < 0 ∨ c_hi (nI w) < z) : f_X8_set (nI w) y z σ = some (-2, σ) := by
  have w6 : nI w ≤ 6 := le_of_le (i := 6) (by omega) (by decide)
  unfold f_X8_set
  rw [isIn_1 (nI_pos' (by omega)) w6, bd1_s, if_neg (by decide), ck_n hw (by decide), nI_clamp (by omega), (hH w hw).1, isIn_0 h, bd1_s, if_pos rfl]
theorem m_set_p {σ : sg_T} (hH : HIG σ) {w : Nat} (hw : w < 7) {y z : Int32} (h0 : ¬ z < 0) (h1 : z ≤ c_hi (nI w)) (hp : f_X8_place (nI w) y σ = some (-1)) : f_X8_set (nI w) y z σ = some (-2, σ) := by
  have w6 : nI w ≤ 6 := le_of_le (i := 6) (by omega) (by decide)
  unfold f_X8_set
  rw [isIn_1 (nI_pos' (by omega)) w6, bd1_s, if_neg (by decide), ck_n hw (by decide), nI_clamp (by omega), (hH w hw).1, isIn_1 (Int32.not_lt.mp h0) h1, bd1_s, if_neg (by decide), hp, bd1_s, if_pos rfl]
theorem m_set_y {σ : sg_T} (hH : HIG σ) {w : Nat} (hw : w < 7) {y z : Int32} (h0 : ¬ z < 0) (h1 : z ≤ c_hi (nI w)) {k : Nat} (hk : k < 58) (hp : f_X8_place (nI w) y σ = some (nI k)) : f_X8_set (nI w) y z σ = some (σ 70 k, up σ 70 k z) := by
  have w6 : nI w ≤ 6 := le_of_le (i := 6) (by omega) (by decide)
  unfold f_X8_set
  rw [isIn_1 (nI_pos' (by omega)) w6, bd1_s, if_neg (by decide), ck_n hw (by decide), nI_clamp (by omega), (hH w hw).1, isIn_1 (Int32.not_lt.mp h0) h1, bd1_s, if_neg (by decide), hp, bd1_s, if_neg (nI_ne_m1 (by omega)), bd1_s, ck_n hk (by decide), nI_clamp (by omega), bnd_s, bd1_s, ck_n hk (by decide), nI_clamp (by omega), bnd_s]
theorem c_set_no {σ : sg_T} {x y z : Int32} (h : (x < 0 ∨ 6 < x)) : f_X7_set x y z σ = some (-2, σ) := by
  unfold f_X7_set
  by_cases x0 : x < 0
  · rw [if_pos x0]
  · rw [if_neg x0, if_pos (h.resolve_left x0)]
theorem c_set_p {σ : sg_T} {w : Nat} (hw : w < 7) {y z : Int32} (hp : f_X1_hasPlace 34 (nI w) y σ = some 0) : f_X7_set (nI w) y z σ = some (-2, σ) := by
  have w6 : nI w ≤ 6 := le_of_le (i := 6) (by omega) (by decide)
  unfold f_X7_set
  rw [if_neg (nI_pos (by omega)), if_neg (Int32.not_lt.mpr w6), hp, bd1_s, if_pos rfl]
theorem c_set_z {σ : sg_T} {w : Nat} (hw : w < 7) {y z : Int32} (hp : f_X1_hasPlace 34 (nI w) y σ = some 1) (h : z < 0 ∨ c_hi (nI w) < z) : f_X7_set (nI w) y z σ = some (-2, σ) := by
  have w6 : nI w ≤ 6 := le_of_le (i := 6) (by omega) (by decide)
  unfold f_X7_set
  rw [if_neg (nI_pos (by omega)), if_neg (Int32.not_lt.mpr w6), hp, bd1_s, if_neg (by decide)]
  by_cases z0 : z < 0
  · rw [if_pos z0]
  · rw [if_neg z0, ck_n hw (by decide), if_neg (Int32.not_le.mpr (h.resolve_left z0))]
theorem c_set_y {σ τ : sg_T} {w : Nat} (hw : w < 7) {y z v : Int32} (hp : f_X1_hasPlace 34 (nI w) y σ = some 1) (h0 : ¬ z < 0) (h1 : z ≤ c_hi (nI w)) (hg : f_X1_get 34 (nI w) y σ = some v) (hq : f_X1_put 34 (nI w) y z σ = some τ) : f_X7_set (nI w) y z σ = some (v, τ) := by
  have w6 : nI w ≤ 6 := le_of_le (i := 6) (by omega) (by decide)
  unfold f_X7_set
  rw [if_neg (nI_pos (by omega)), if_neg (Int32.not_lt.mpr w6), hp, bd1_s, if_neg (by decide), if_neg h0, ck_n hw (by decide), if_pos h1, hg, bd1_s, hq, bd1_s]
theorem sm_set (x y z : Int32) : SM (f_X7_set x y z) (f_X8_set x y z) := by
  intro σ ⟨a, m, d, ru, T, n, h⟩
  have hW := h
  obtain ⟨hC, hM, hok, hd, hru, hTC, hTM, hO, hI, hTp, hS, hH⟩ := h
  have hm := hC.1
  have e0 : (0 : Int32).toInt = 0 := by decide
  by_cases hx : x < 0 ∨ 6 < x
  · exact ⟨-2, σ, σ, c_set_no hx, m_set_no hx, a, m, d, ru, T, n, hW⟩
  · have x0 : ¬ x < 0 := fun q => hx (Or.inl q)
    have x6 : ¬ 6 < x := fun q => hx (Or.inr q)
    have hw : ∃ w, w < 7 ∧ x = nI w := by
      have e6 : (6 : Int32).toInt = 6 := by decide
      rw [Int32.lt_iff_toInt_lt] at x0 x6
      exact ⟨x.toInt.toNat, by omega, Int32.toInt_inj.mp (by rw [nI_toInt (by omega)]; omega)⟩
    obtain ⟨w, hw, rfl⟩ := hw
    have hz : (z < 0 ∨ c_hi (nI w) < z) ∨ (¬ z < 0 ∧ z ≤ c_hi (nI w)) := by
      by_cases z0 : z < 0
      · exact Or.inl (Or.inl z0)
      · by_cases z1 : z ≤ c_hi (nI w)
        · exact Or.inr ⟨z0, z1⟩
        · exact Or.inl (Or.inr (Int32.not_le.mp z1))
    -- the place: none, or one by both
    have key : (f_X1_hasPlace 34 (nI w) y σ = some 0 ∧ f_X8_place (nI w) y σ = some (-1)) ∨ (f_X1_hasPlace 34 (nI w) y σ = some 1 ∧ (¬ z < 0 ∧ z ≤ c_hi (nI w) → ∃ v τ k, k < 58 ∧ f_X1_get 34 (nI w) y σ = some v ∧ f_X1_put 34 (nI w) y z σ = some τ ∧ (∀ q, ¬ (34 ≤ q ∧ q ≤ 41) → τ q = σ q) ∧ f_X8_place (nI w) y τ = some (nI k) ∧ σ 70 k = v ∧ WRL (up τ 70 k z))) := by
      by_cases w0 : w = 0
      · subst w0
        refine Or.inr ⟨rfl, fun ⟨z0, z1⟩ => ⟨d, up σ 34 8 z, 56, by decide, ?_, rfl, fun q hq => up_n (by omega), rfl, hM.2.2.1, a, m, z, ru, T, n, ?_⟩⟩
        · show some (σ 34 8) = some d
          rw [hC.2.2.1]
        · have hM1 : PM (up σ 34 8 z) 70 a m d (nI ru) := hM.eq (up_n (by decide))
          refine hW.new ((hC.day z).eq (fun p _ _ => up_n (by omega))) (hM1.day z) hok ?_ hru (fun q h1 h2 h3 => by rw [up_n h3, up_n (by omega)])
          have e999 : (c_hi (nI 0)).toInt = 999 := by decide
          rw [Int32.lt_iff_toInt_lt] at z0
          rw [Int32.le_iff_toInt_le] at z1
          unfold inr; omega
      · have hr : ¬ z < 0 ∧ z ≤ c_hi (nI w) → inr z 0 (hiK w) := fun ⟨z0, z1⟩ => by
          have := chi_t w (by omega) hw
          rw [Int32.lt_iff_toInt_lt] at z0
          rw [Int32.le_iff_toInt_le] at z1
          unfold inr; omega
        by_cases w6 : w = 6
        · subst w6
          by_cases y0 : y < 0
          · exact Or.inl ⟨hp6_no hC (Or.inl y0), pl6_no hM (Or.inl y0)⟩
          · rcases two (y / 10) (jrem y 10) hm with ⟨i, j, hi, hj, hij, e1, e2⟩ | hout
            · refine Or.inr ⟨hp6_in hC y0 hi hj hij e1 e2, fun hzz => ?_⟩
              have hM1 : PM (up σ (34 + 7) (i * 5 + j) z) 70 a m d (nI ru) := hM.eq (up_n (by decide))
              refine ⟨a i (6 + j), up σ (34 + 7) (i * 5 + j) z, 11 * i + (6 + j), by omega, get6_c hC y0 hi hj hij e1 e2, put6_c hC y0 hi hj hij e1 e2 z, fun q hq => up_n (by omega), pl6_in hM1 y0 hi hj hij e1 e2, hM.2.2.2.2.2 i j hi hj hij, up a i (6 + j) z, m, d, ru, T, n, ?_⟩
              refine hW.new ((hC.putF hi hj hij z).eq (fun p _ _ => up_n (by omega))) (hM1.put (by omega) (by omega) z) (hok.put ?_) hd hru (fun q h1 h2 h3 => by rw [up_n h3, up_n (by omega)])
              have e : hiK (6 + j) = hiK 6 := by unfold hiK; rw [if_neg (by omega), if_neg (by omega), if_neg (by omega), if_neg (by omega), if_neg (by omega), if_neg (by omega)]; rfl
              rw [e]; exact hr hzz
            · exact Or.inl ⟨hp6_no hC (Or.inr hout), pl6_no hM (Or.inr hout)⟩
        · rcases who y hm with ⟨i, hi, rfl⟩ | hy
          · refine Or.inr ⟨by rw [hpk hC (by omega) (by omega)]; exact has_in hC.2.1 hm hi, fun hzz => ?_⟩
            have hM1 : PM (up σ (34 + 1 + w) i z) 70 a m d (nI ru) := hM.eq (up_n (by omega))
            refine ⟨a i w, up σ (34 + 1 + w) i z, 11 * i + w, by omega, get_c hC (by omega) (by omega) hi, putk_c hC (by omega) (by omega) hi z, fun q hq => up_n (by omega), plk_in hM1 (by omega) (by omega) hi, hM.2.2.2.2.1 i hi w (by omega), up a i w z, m, d, ru, T, n, ?_⟩
            exact hW.new ((hC.put (i := i) (k := w) (by omega) z).eq (fun p _ _ => up_n (by omega))) (hM1.put (by omega) (by omega) z) (hok.put (hr hzz)) hd hru (fun q h1 h2 h3 => by rw [up_n h3, up_n (by omega)])
          · exact Or.inl ⟨by rw [hpk hC (by omega) (by omega)]; exact has_out hC.2.1 hy, plk_no hM (by omega) (by omega) hy⟩
    rcases key with ⟨k1, k2⟩ | ⟨k1, k2⟩
    · refine ⟨-2, σ, σ, c_set_p hw k1, ?_, a, m, d, ru, T, n, hW⟩
      rcases hz with hz | ⟨z0, z1⟩
      · exact m_set_z hH hw hz
      · exact m_set_p hH hw z0 z1 k2
    · rcases hz with hz | ⟨z0, z1⟩
      · exact ⟨-2, σ, σ, c_set_z hw k1 hz, m_set_z hH hw hz, a, m, d, ru, T, n, hW⟩
      · obtain ⟨v, τ, k, hk, g1, g2, g3, g4, g5, g6⟩ := k2 ⟨z0, z1⟩
        have hH1 : HIG τ := fun k hk => by rw [g3 73 (by omega), g3 88 (by omega), g3 77 (by omega)]; exact hH k hk
        refine ⟨v, τ, up τ 70 k z, c_set_y hw k1 z0 z1 g1 g2, ?_, g6⟩
        rw [m_set_y hH1 hw z0 z1 hk g4, g3 70 (by omega), g5]

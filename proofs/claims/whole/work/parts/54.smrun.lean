theorem sm_run (x y z : Int32) : SM (f_X7_run x y z) (f_X8_run x y z) := by
  intro σ ⟨a, m, d, ru, T, n, h⟩
  have hW := h
  obtain ⟨hC, hM, hok, hd, hru, hTC, hTM, hO, _⟩ := h
  have isP42 : isP 42 := Or.inr (Or.inl rfl)
  have e0 : (0 : Int32).toInt = 0 := by decide
  have e4 : (4 : Int32).toInt = 4 := by decide
  have e40 : (40 : Int32).toInt = 40 := by decide
  rcases who x hC.1 with ⟨i, hi, rfl⟩ | hx
  · by_cases hyz : y < 0 ∨ 40 < y ∨ z < 0 ∨ 4 < z
    · refine ⟨-2, σ, σ, ?_, ?_, a, m, d, ru, T, n, hW⟩
      · unfold f_X7_run
        rw [has_in hC.2.1 hC.1 hi, bd1_s, if_neg (by decide)]
        by_cases y0 : y < 0
        · rw [if_pos y0]
        · by_cases y1 : 40 < y
          · rw [if_neg y0, if_pos y1]
          · by_cases z0 : z < 0
            · rw [if_neg y0, if_neg y1, if_pos z0]
            · have z1 : ¬ z ≤ 4 := Int32.not_le.mpr (((hyz.resolve_left y0).resolve_left y1).resolve_left z0)
              rw [if_neg y0, if_neg y1, if_neg z0, if_neg z1]
      · unfold f_X8_run
        rw [isOne_in hM hi, bd1_s, if_neg (by decide)]
        by_cases hy : y < 0 ∨ 40 < y
        · rw [isIn_0 hy, bd1_s, if_pos rfl]
        · have y0 : ¬ y < 0 := fun q => hy (Or.inl q)
          have y1 : ¬ 40 < y := fun q => hy (Or.inr q)
          rw [isIn_1 (Int32.not_lt.mp y0) (Int32.not_lt.mp y1), bd1_s, if_neg (by decide), isIn_0 ((hyz.resolve_left y0).resolve_left y1), bd1_s, if_pos rfl]
    · have y0 : ¬ y < 0 := fun q => hyz (Or.inl q)
      have y1 : ¬ 40 < y := fun q => hyz (Or.inr (Or.inl q))
      have z0 : ¬ z < 0 := fun q => hyz (Or.inr (Or.inr (Or.inl q)))
      have z1 : z ≤ 4 := Int32.not_lt.mp (fun q => hyz (Or.inr (Or.inr (Or.inr q))))
      have hy : ∃ N, N ≤ 40 ∧ y = nI N := by
        have y0' := y0
        have y1' := y1
        rw [Int32.lt_iff_toInt_lt] at y0' y1'
        exact ⟨y.toInt.toNat, by omega, Int32.toInt_inj.mp (by rw [nI_toInt (by omega)]; omega)⟩
      obtain ⟨N, hN, rfl⟩ := hy
      obtain ⟨σ1, e1, hC1, f1⟩ := copy_c (o := 42) (o1 := 34) (Or.inr (by decide)) hC
      have hTC1 : TC σ1 T n := hTC.eq (fun q _ _ _ _ => f1 q (by omega))
      obtain ⟨σ2, e2, hC2, f2⟩ := pass_c hC1 hTC1 hO hru hN
      have hTC2 : TC σ2 T n := hTC1.eq (fun q h1 h2 h3 h4 => f2 q (by unfold fD; omega) (by omega))
      have k2 : ∀ q, fD q → ¬ (42 ≤ q ∧ q < 50) → σ2 q = σ q := fun q h1 h2 => by rw [f2 q h1 h2, f1 q (by omega)]
      -- what the model does behind, for an answer r
      have mdl : ∀ ρ r, (∀ q, fD q → ¬ (42 ≤ q ∧ q < 50) → ρ q = σ q) → (∀ τ, PM τ 70 (dN T ru a m d N).1 m (dN T ru a m d N).2 (nI ru) → TM τ T n → ∃ τ', (∀ q, q ≠ 79 → τ' q = τ q) ∧ (if z = 0 then bd2 (f_X8_wakes (nI i) τ) (fun r36 σ37 => bd1 (f_X8_lay 72 σ37) (fun σ39 => some (r36, σ39))) else if z = 1 then bd1 (f_X8_of (nI i) 3 τ) (fun r32 => bd1 (f_X8_lay 72 τ) (fun σ34 => some (r32, σ34))) else if z = 2 then bd1 (f_X8_of (nI i) 5 τ) (fun r28 => bd1 (f_X8_lay 72 τ) (fun σ30 => some (r28, σ30))) else if z = 3 then bd2 (f_X8_lates τ) (fun r23 σ24 => bd1 (f_X8_lay 72 σ24) (fun σ26 => some (r23, σ26))) else bd1 (f_X8_all 4 τ) (fun r19 => bd1 (f_X8_lay 72 τ) (fun σ21 => some (r19, σ21)))) = bd1 (f_X8_lay 72 τ') (fun σ9 => some (r, σ9))) → ∃ σ3, f_X8_run (nI i) (nI N) z ρ = some (r, σ3) ∧ WRL σ3 := by
        intro ρ r hρ hr
        have hM1 : PM ρ 70 a m d (nI ru) := hM.eq (hρ 70 (by unfold fD; omega) (by omega))
        have hTM1 : TM ρ T n := TM_scr hTM (fun q hq => hρ q (by unfold fD; omega) (by omega))
        obtain ⟨ρ1, a1, b1, c1⟩ := keep_m ρ (p := 72) (by decide)
        have hM2 : PM ρ1 70 a m d (nI ru) := hM1.eq (c1 70 (by decide))
        have hM72 : PM ρ1 72 a m d (nI ru) := hM1.cp b1
        have hTM2 : TM ρ1 T n := TM_scr hTM1 (fun q hq => c1 q (by omega))
        obtain ⟨ρ2, a2, hM3, c2⟩ := pass_m hM2 hok hTM2 hO hru hN
        have hTM3 : TM ρ2 T n := TM_scr hTM2 (fun q hq => c2 q (by omega) (by omega))
        obtain ⟨τ', c3, a3⟩ := hr ρ2 hM3 hTM3
        have hM73 : PM τ' 72 a m d (nI ru) := hM72.eq (by rw [c3 72 (by decide), c2 72 (by decide) (by decide)])
        obtain ⟨ρ4, a4, b4, c4⟩ := lay_m τ' (p := 72) (by decide)
        have hM4 : PM ρ4 70 a m d (nI ru) := hM73.cp b4
        refine ⟨ρ4, ?_, a, m, d, ru, T, n, hW.new ?_ hM4 hok hd hru (fun q h1 h2 h3 => ?_)⟩
        · unfold f_X8_run
          rw [isOne_in hM1 hi, bd1_s, if_neg (by decide), isIn_1 (Int32.not_lt.mp y0) (Int32.not_lt.mp y1), bd1_s, if_neg (by decide), isIn_1 (Int32.not_lt.mp z0) z1, bd1_s, if_neg (by decide), a1, bd1_s, a2, bd1_s]
          refine a3.trans ?_
          rw [a4, bd1_s]
        · exact hC.eq (fun p h1 h2 => by rw [c4 p (by omega), c3 p (by omega), c2 p (by omega) (by omega), c1 p (by omega)]; exact hρ p (by unfold fD; omega) (by omega))
        · unfold kp at h1
          rw [c4 q h3, c3 q (by omega), c2 q h3 (by omega), c1 q (by omega)]; exact hρ q (by unfold fD; omega) (by omega)
      have cl : ∀ r σ3, (if z = 0 then bd2 (f_X0_wakes 42 (nI i) σ2) (fun r14 σ15 => some (r14, σ15)) else if z = 1 then bd1 (f_X1_get 42 3 (nI i) σ2) (fun r18 => some (r18, σ2)) else if z = 2 then bd1 (f_X1_get 42 5 (nI i) σ2) (fun r21 => some (r21, σ2)) else if z = 3 then bd1 (f_X0_dawn 42 σ2) (fun σ24 => bd1 (f_X0_whoIsLate 42 σ24) (fun r26 => bd1 (f_J6_bitCount r26 σ24) (fun r27 => some (r27, σ24)))) else bd1 (f_X1_sum 42 4 σ2) (fun r30 => some (r30, σ2))) = some (r, σ3) → f_X7_run (nI i) (nI N) z σ = some (r, σ3) := fun r σ3 hh => by
        unfold f_X7_run
        rw [has_in hC.2.1 hC.1 hi, bd1_s, if_neg (by decide), if_neg y0, if_neg y1, if_neg z0, if_pos z1, e1, bd1_s, e2, bd1_s]
        exact hh
      by_cases q0 : z = 0
      · subst q0
        obtain ⟨σ3, e3, f3⟩ := wakes_c hC2 isP42 hTC2 hO hru hi
        obtain ⟨σ4, g1, g2⟩ := mdl σ3 (sWa T ru (dN T ru a m d N).1 m (dN T ru a m d N).2 i) (fun q h1 h2 => by rw [f3 q (by unfold fD at h1; omega) (by unfold fD at h1; omega)]; exact k2 q h1 h2) (fun τ hP hT => by
          obtain ⟨τ1, a1, b1⟩ := wakes_m hP hT hO hru hi
          exact ⟨τ1, b1, by rw [if_pos rfl, a1, bd2_s]⟩)
        exact ⟨_, σ3, σ4, cl _ _ (by rw [if_pos rfl, e3, bd2_s]), g1, g2⟩
      · by_cases q1 : z = 1
        · subst q1
          have e3 : f_X1_get 42 3 (nI i) σ2 = some ((dN T ru a m d N).1 i 3) := get_c (w := 3) hC2 (by decide) (by decide) hi
          obtain ⟨σ4, g1, g2⟩ := mdl σ2 ((dN T ru a m d N).1 i 3) k2 (fun τ hP hT => by
            have o3 : f_X8_of (nI i) 3 τ = some ((dN T ru a m d N).1 i 3) := ofk_m (k := 3) hP hi (by decide)
            exact ⟨τ, fun _ _ => rfl, by rw [if_neg (by decide), if_pos rfl, o3, bd1_s]⟩)
          exact ⟨_, σ2, σ4, cl _ _ (by rw [if_neg (by decide), if_pos rfl, e3, bd1_s]), g1, g2⟩
        · by_cases q2 : z = 2
          · subst q2
            have e3 : f_X1_get 42 5 (nI i) σ2 = some ((dN T ru a m d N).1 i 5) := get_c (w := 5) hC2 (by decide) (by decide) hi
            obtain ⟨σ4, g1, g2⟩ := mdl σ2 ((dN T ru a m d N).1 i 5) k2 (fun τ hP hT => by
              have o3 : f_X8_of (nI i) 5 τ = some ((dN T ru a m d N).1 i 5) := ofk_m (k := 5) hP hi (by decide)
              exact ⟨τ, fun _ _ => rfl, by rw [if_neg (by decide), if_neg (by decide), if_pos rfl, o3, bd1_s]⟩)
            exact ⟨_, σ2, σ4, cl _ _ (by rw [if_neg (by decide), if_neg (by decide), if_pos rfl, e3, bd1_s]), g1, g2⟩
          · by_cases q3 : z = 3
            · subst q3
              obtain ⟨σ3, e3, hD⟩ := dawn_c hC2 isP42 hTC2 hO hru
              have hm3 : σ3 42 7 = nI m := by rw [hD.2 42 (by unfold fD; omega)]; exact hC2.2.1
              have e5 := late_c hm3 hC.1 (fun i hi => (hD.1 i hi).2.2.1)
              rw [wl_wb] at e5
              obtain ⟨σ4, g1, g2⟩ := mdl σ3 (cb (fun i => !decide (sLa T ru (dN T ru a m d N).1 m (dN T ru a m d N).2 i ≤ 0)) m) (fun q h1 h2 => by rw [hD.2 q h1]; exact k2 q h1 h2) (fun τ hP hT => by
                obtain ⟨τ1, a1, b1⟩ := lates_m hP hT hO hru
                exact ⟨τ1, b1, by rw [if_neg (by decide), if_neg (by decide), if_neg (by decide), if_pos rfl, a1, bd2_s]⟩)
              exact ⟨_, σ3, σ4, cl _ _ (by rw [if_neg (by decide), if_neg (by decide), if_neg (by decide), if_pos rfl, e3, bd1_s, e5, bd1_s, bc _ hC.1, bd1_s]), g1, g2⟩
            · have e3 : f_X1_sum 42 4 σ2 = some (sS (dN T ru a m d N).1 4 m) := sum_c (w := 4) hC2 (by decide) (by decide)
              obtain ⟨σ4, g1, g2⟩ := mdl σ2 (sS (dN T ru a m d N).1 4 m) k2 (fun τ hP hT => by
                have o3 : f_X8_all 4 τ = some (sS (dN T ru a m d N).1 4 m) := all_m (w := 4) hP (by decide)
                exact ⟨τ, fun _ _ => rfl, by rw [if_neg q0, if_neg q1, if_neg q2, if_neg q3, o3, bd1_s]⟩)
              exact ⟨_, σ2, σ4, cl _ _ (by rw [if_neg q0, if_neg q1, if_neg q2, if_neg q3, e3, bd1_s]), g1, g2⟩
  · refine ⟨-2, σ, σ, ?_, ?_, a, m, d, ru, T, n, hW⟩
    · unfold f_X7_run
      rw [has_out hC.2.1 hx, bd1_s, if_pos rfl]
    · unfold f_X8_run
      rw [isOne_out hM hx, bd1_s, if_pos rfl]

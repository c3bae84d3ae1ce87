section FonderB
variable {σ : sg_T} {a b : pa_T} {m : Nat} {d : Int32} {ru : Nat} {T : tx_T} {n : Nat}
theorem t10 : ∀ i, i < 5 → ∀ j, j < 5 → ((10 * nI i + nI j) / 10 = nI i ∧ jrem (10 * nI i + nI j) 10 = nI j ∧ ¬ (10 * nI i + nI j) < 0) := by decide +kernel
theorem fond_c (h : PC σ 34 a m d (nI ru)) (hT : TC σ T n) (hO : TOk T n) (hru : ru < n) {N : Nat} (hN : N ≤ 40) {i : Nat} (hi : i < m) (z l : Int32) : ∃ r, itr (fun q => b_X7_fonder_50 (nI i) (nI N) z q.1 q.2.1 q.2.2.1 q.2.2.2) lfu (-1, l, 0, σ) = some r ∧ (r.1 = (bst (fun j => sS (dN T ru (up a i (6 + j) 9) m d N).1 5 m) (fun j => !decide (j = i)) (-1) l m).1 ∧ r.2.1 = (bst (fun j => sS (dN T ru (up a i (6 + j) 9) m d N).1 5 m) (fun j => !decide (j = i)) (-1) l m).2 ∧ ∀ q, fD q → ¬ (42 ≤ q ∧ q < 50) → r.2.2.2 q = σ q) := by
  have hm := h.1
  refine itr_run (f := fun q => b_X7_fonder_50 (nI i) (nI N) z q.1 q.2.1 q.2.2.1 q.2.2.2) (I := fun k q => q.1 = (bst (fun j => sS (dN T ru (up a i (6 + j) 9) m d N).1 5 m) (fun j => !decide (j = i)) (-1) l k).1 ∧ q.2.1 = (bst (fun j => sS (dN T ru (up a i (6 + j) 9) m d N).1 5 m) (fun j => !decide (j = i)) (-1) l k).2 ∧ q.2.2.1 = nI k ∧ ∀ p, fD p → ¬ (42 ≤ p ∧ p < 50) → q.2.2.2 p = σ p) (R := fun r => r.1 = (bst (fun j => sS (dN T ru (up a i (6 + j) 9) m d N).1 5 m) (fun j => !decide (j = i)) (-1) l m).1 ∧ r.2.1 = (bst (fun j => sS (dN T ru (up a i (6 + j) 9) m d N).1 5 m) (fun j => !decide (j = i)) (-1) l m).2 ∧ ∀ q, fD q → ¬ (42 ≤ q ∧ q < 50) → r.2.2.2 q = σ q) m (a := (-1, l, 0, σ)) ⟨rfl, rfl, rfl, fun _ _ _ => rfl⟩ ?_ ?_ (by omega)
  · intro k hk ⟨w1, w2, w3, τ⟩ ⟨h1, h2, h3, hF⟩
    dsimp only at h1 h2 h3 hF ⊢
    subst h1 h2 h3
    have hC1 : PC τ 34 a m d (nI ru) := h.eq (fun p _ _ => hF p (by unfold fD; omega) (by omega))
    have hT1 : TC τ T n := hT.eq (fun q _ _ _ _ => hF q (by unfold fD; omega) (by omega))
    have hmn : f_X1_many 34 τ = some (nI m) := by unfold f_X1_many; rw [hC1.2.1]
    unfold b_X7_fonder_50
    rw [hmn, bd1_s, if_neg (nle_of_lt hk (by omega)), bst_1]
    by_cases hki : k = i
    · subst hki
      rw [if_pos rfl, if_neg (by simp), bnd_s, nI_1]
      exact ⟨_, rfl, rfl, rfl, rfl, hF⟩
    · have hne : ¬ nI k = nI i := nIne (by omega) (by omega) hki
      obtain ⟨t1, t2, t3⟩ := t10 i (by omega) k (by omega)
      have k6 : ∀ {β : Type} (r : Option β), ck 6 7 r = r := fun r => ck_n (i := 6) (by decide) (by decide)
      obtain ⟨τ1, e1, f1⟩ := lateB_c (b := up a i (6 + k) 9) (w := 6) (x := 10 * nI i + nI k) (v := 9) hC1 hT1 hO hru hN (fun ρ hρ => ⟨_, put6_c hρ t3 hi hk (fun q => hki q.symm) t1 t2 9, hρ.putF hi hk (fun q => hki q.symm) 9, fun q hq => up_n (by omega)⟩)
      have fr : ∀ p, fD p → ¬ (42 ≤ p ∧ p < 50) → τ1 p = σ p := fun p g1 g2 => by rw [f1 p g1 g2]; exact hF p g1 g2
      have hp : (!decide (k = i)) = true := by simp [hki]
      rw [if_neg hne, k6, chi6, e1, bd2_s, if_pos hp]
      by_cases hle : (bst (fun j => sS (dN T ru (up a i (6 + j) 9) m d N).1 5 m) (fun j => !decide (j = i)) (-1) l k).2 ≤ sS (dN T ru (up a i (6 + k) 9) m d N).1 5 m
      · rw [if_pos hle, if_pos hle, bnd_s, nI_1]
        exact ⟨_, rfl, rfl, rfl, rfl, fr⟩
      · rw [if_neg hle, if_neg hle, bnd_s, nI_1]
        exact ⟨_, rfl, rfl, rfl, rfl, fr⟩
  · intro ⟨w1, w2, w3, τ⟩ ⟨h1, h2, h3, hF⟩
    dsimp only at h1 h2 h3 hF ⊢
    subst h1 h2 h3
    have hC1 : PC τ 34 a m d (nI ru) := h.eq (fun p _ _ => hF p (by unfold fD; omega) (by omega))
    have hmn : f_X1_many 34 τ = some (nI m) := by unfold f_X1_many; rw [hC1.2.1]
    refine ⟨(_, _, nI m, τ), ?_, rfl, rfl, hF⟩
    unfold b_X7_fonder_50
    rw [hmn, bd1_s, if_pos (Int32.le_refl _)]
theorem fond_m (h : PM σ 70 a m d (nI ru)) (hok : OkP a m) (hT : TM σ T n) (hO : TOk T n) (hru : ru < n) {N : Nat} (hN : N ≤ 40) {i : Nat} (hi : i < m) (z l : Int32) : ∃ r, itr (fun q => b_X8_fonder_43 (nI i) (nI N) z q.1 q.2.1 q.2.2.1 q.2.2.2) lfu (-1, l, 0, σ) = some r ∧ (r.1 = (bst (fun j => sS (dN T ru (up a i (6 + j) 9) m d N).1 5 m) (fun j => !decide (j = i)) (-1) l m).1 ∧ r.2.1 = (bst (fun j => sS (dN T ru (up a i (6 + j) 9) m d N).1 5 m) (fun j => !decide (j = i)) (-1) l m).2 ∧ PM r.2.2.2 70 a m d (nI ru) ∧ ∀ q, q ≠ 70 → q ≠ 72 → ¬ (79 ≤ q ∧ q ≤ 83) → r.2.2.2 q = σ q) := by
  have hm := h.1
  refine itr_run (f := fun q => b_X8_fonder_43 (nI i) (nI N) z q.1 q.2.1 q.2.2.1 q.2.2.2) (I := fun k q => q.1 = (bst (fun j => sS (dN T ru (up a i (6 + j) 9) m d N).1 5 m) (fun j => !decide (j = i)) (-1) l k).1 ∧ q.2.1 = (bst (fun j => sS (dN T ru (up a i (6 + j) 9) m d N).1 5 m) (fun j => !decide (j = i)) (-1) l k).2 ∧ q.2.2.1 = nI k ∧ PM q.2.2.2 70 a m d (nI ru) ∧ ∀ p, p ≠ 70 → p ≠ 72 → ¬ (79 ≤ p ∧ p ≤ 83) → q.2.2.2 p = σ p) (R := fun r => r.1 = (bst (fun j => sS (dN T ru (up a i (6 + j) 9) m d N).1 5 m) (fun j => !decide (j = i)) (-1) l m).1 ∧ r.2.1 = (bst (fun j => sS (dN T ru (up a i (6 + j) 9) m d N).1 5 m) (fun j => !decide (j = i)) (-1) l m).2 ∧ PM r.2.2.2 70 a m d (nI ru) ∧ ∀ q, q ≠ 70 → q ≠ 72 → ¬ (79 ≤ q ∧ q ≤ 83) → r.2.2.2 q = σ q) m (a := (-1, l, 0, σ)) ⟨rfl, rfl, rfl, h, fun _ _ _ _ => rfl⟩ ?_ ?_ (by omega)
  · intro k hk ⟨w1, w2, w3, τ⟩ ⟨h1, h2, h3, hP, hF⟩
    dsimp only at h1 h2 h3 hP hF ⊢
    subst h1 h2 h3
    unfold b_X8_fonder_43
    rw [many_m hP, bd1_s, if_neg (nle_of_lt hk (by omega)), bst_1]
    by_cases hki : k = i
    · subst hki
      rw [if_pos rfl, if_neg (by simp), bnd_s, nI_1]
      exact ⟨_, rfl, rfl, rfl, rfl, hP, hF⟩
    · have hne : ¬ nI k = nI i := nIne (by omega) (by omega) hki
      have hp : (!decide (k = i)) = true := by simp [hki]
      have e6 : (6 : Int32) + nI k = nI (6 + k) := by rw [n_6, nI_add]
      have hP1 : PM (up τ 70 (11 * i + (6 + k)) 9) 70 (up a i (6 + k) 9) m d (nI ru) := hP.put (i := i) (k := 6 + k) (by omega) (by omega) 9
      have hok1 : OkP (up a i (6 + k) 9) m := hok.put (by
        have e9 : (9 : Int32).toInt = 9 := by decide
        unfold inr hiK
        rw [if_neg (by omega), if_neg (by omega), if_neg (by omega), if_neg (by omega), if_neg (by omega), if_neg (by omega), e9]; omega)
      have hT1 : TM (up τ 70 (11 * i + (6 + k)) 9) T n := TM_scr hT (fun q hq => by rw [up_n (by omega)]; exact hF q (by omega) (by omega) (by omega))
      obtain ⟨τ1, e1, hP2, f1⟩ := lateB_m hP1 hok1 hT1 hO hru hN
      have o1 : f_X8_of (nI i) (6 + nI k) τ = some (a i (6 + k)) := off_m hP hi hk (fun q => hki q.symm)
      have c1 : f_X8_change (nI i) (6 + nI k) 9 τ = some (up τ 70 (11 * i + (6 + k)) 9) := by rw [e6]; exact chg_m (by omega) (by omega) 9
      have c2 : f_X8_change (nI i) (6 + nI k) (a i (6 + k)) τ1 = some (up τ1 70 (11 * i + (6 + k)) (a i (6 + k))) := by rw [e6]; exact chg_m (by omega) (by omega) _
      have hP3 : PM (up τ1 70 (11 * i + (6 + k)) (a i (6 + k))) 70 a m d (nI ru) := by
        have := hP2.put (i := i) (k := 6 + k) (by omega) (by omega) (a i (6 + k))
        rw [up_up, up_self] at this; exact this
      have fr : ∀ p, p ≠ 70 → p ≠ 72 → ¬ (79 ≤ p ∧ p ≤ 83) → up τ1 70 (11 * i + (6 + k)) (a i (6 + k)) p = σ p := fun p g1 g2 g3 => by rw [up_n g1, f1 p g1 g2 g3, up_n g1]; exact hF p g1 g2 g3
      rw [if_neg hne, o1, bd1_s, c1, bd1_s, e1, bd2_s, c2, bd1_s, if_pos hp, bnd_s, bnd_s, bnd_s, nI_1, jmin_if]
      refine ⟨_, rfl, ?_, ?_, rfl, hP3, fr⟩
      · dsimp only
        split <;> rfl
      · dsimp only
        split <;> rfl
  · intro ⟨w1, w2, w3, τ⟩ ⟨h1, h2, h3, hP, hF⟩
    dsimp only at h1 h2 h3 hP hF ⊢
    subst h1 h2 h3
    refine ⟨(_, _, nI m, τ), ?_, rfl, rfl, hP, hF⟩
    unfold b_X8_fonder_43
    rw [many_m hP, bd1_s, if_pos (Int32.le_refl _)]
theorem sm_fonder (x y z : Int32) : SM (f_X7_fonder x y z) (f_X8_fonder x y z) := by
  intro σ ⟨a, m, d, ru, T, n, h⟩
  have hW := h
  obtain ⟨hC, hM, hok, hd, hru, hTC, hTM, hO, _⟩ := h
  have hm := hC.1
  rcases who x hC.1 with ⟨i, hi, rfl⟩ | hx
  · by_cases hyz : y < 0 ∨ 20 < y ∨ z < 0 ∨ 1 < z
    · refine ⟨-2, σ, σ, ?_, ?_, a, m, d, ru, T, n, hW⟩
      · unfold f_X7_fonder
        rw [has_in hC.2.1 hC.1 hi, bd1_s, if_neg (by decide)]
        by_cases y0 : y < 0
        · rw [if_pos y0]
        · by_cases y1 : 20 < y
          · rw [if_neg y0, if_pos y1]
          · by_cases z0 : z < 0
            · rw [if_neg y0, if_neg y1, if_pos z0]
            · have z1 : ¬ z ≤ 1 := Int32.not_le.mpr (((hyz.resolve_left y0).resolve_left y1).resolve_left z0)
              rw [if_neg y0, if_neg y1, if_neg z0, if_neg z1]
      · unfold f_X8_fonder
        rw [isOne_in hM hi, bd1_s, if_neg (by decide)]
        by_cases hy : y < 0 ∨ 20 < y
        · rw [isIn_0 hy, bd1_s, if_pos rfl]
        · have y0 : ¬ y < 0 := fun q => hy (Or.inl q)
          have y1 : ¬ 20 < y := fun q => hy (Or.inr q)
          rw [isIn_1 (Int32.not_lt.mp y0) (Int32.not_lt.mp y1), bd1_s, if_neg (by decide), isIn_0 ((hyz.resolve_left y0).resolve_left y1), bd1_s, if_pos rfl]
    · have y0 : ¬ y < 0 := fun q => hyz (Or.inl q)
      have y1 : ¬ 20 < y := fun q => hyz (Or.inr (Or.inl q))
      have z0 : ¬ z < 0 := fun q => hyz (Or.inr (Or.inr (Or.inl q)))
      have z1 : z ≤ 1 := Int32.not_lt.mp (fun q => hyz (Or.inr (Or.inr (Or.inr q))))
      obtain ⟨⟨N, hN, rfl⟩, hz⟩ := yz_no hyz
      obtain ⟨σ1, e1, f1⟩ := lateB_c (b := a) (N := N) (w := 9) (x := -1) (v := -1) hC hTC hO hru (by omega) (fun ρ hρ => ⟨ρ, by unfold f_X1_put; rw [if_neg (by decide), if_neg (by decide), if_pos rfl], hρ, fun _ _ => rfl⟩)
      have hC1 : PC σ1 34 a m d (nI ru) := hC.eq (fun p _ _ => f1 p (by unfold fD; omega) (by omega))
      have hTC1 : TC σ1 T n := hTC.eq (fun q _ _ _ _ => f1 q (by unfold fD; omega) (by omega))
      obtain ⟨⟨v1, v2, v3, σ2⟩, e2, r1, r2, f2⟩ := fond_c hC1 hTC1 hO hru (N := N) (by omega) hi z (sS (dN T ru a m d N).1 5 m)
      dsimp only at r1 r2 f2
      have k2 : ∀ q, fD q → ¬ (42 ≤ q ∧ q < 50) → σ2 q = σ q := fun q h1 h2 => by rw [f2 q h1 h2, f1 q h1 h2]
      have hM2 : PM σ2 70 a m d (nI ru) := hM.eq (k2 70 (by unfold fD; omega) (by omega))
      have hTM2 : TM σ2 T n := TM_scr hTM (fun q hq => k2 q (by unfold fD; omega) (by omega))
      obtain ⟨σ3, e3, hP3, f3⟩ := lateB_m hM2 hok hTM2 hO hru (N := N) (by omega)
      have hTM3 : TM σ3 T n := TM_scr hTM2 (fun q hq => f3 q (by omega) (by omega) (by omega))
      obtain ⟨⟨u1, u2, u3, σ4⟩, e4, s1, s2, hP4, f4⟩ := fond_m hP3 hok hTM3 hO hru (N := N) (by omega) hi z (sS (dN T ru a m d N).1 5 m)
      dsimp only at s1 s2 hP4 f4
      have r12 : v1 = u1 ∧ v2 = u2 := ⟨by rw [r1, s1], by rw [r2, s2]⟩
      obtain ⟨rfl, rfl⟩ := r12
      refine ⟨if z = 0 then v1 else v2, σ2, σ4, ?_, ?_, a, m, d, ru, T, n, hW.new (hC.eq (fun p _ _ => ?_)) hP4 hok hd hru (fun q h1 h2 h3 => ?_)⟩
      · unfold f_X7_fonder
        rw [has_in hC.2.1 hC.1 hi, bd1_s, if_neg (by decide), if_neg y0, if_neg y1, if_neg z0, if_pos z1, e1, bd2_s, e2, bd4_s, bnd_s]
      · unfold f_X8_fonder
        rw [isOne_in hM2 hi, bd1_s, if_neg (by decide), isIn_1 (Int32.not_lt.mp y0) (Int32.not_lt.mp y1), bd1_s, if_neg (by decide), isIn_1 (Int32.not_lt.mp z0) z1, bd1_s, if_neg (by decide), e3, bd2_s, e4, bd4_s, bnd_s]
      · rw [f4 p (by omega) (by omega) (by omega), f3 p (by omega) (by omega) (by omega), k2 p (by unfold fD; omega) (by omega)]
      · unfold kp at h1
        rw [f4 q h3 (by omega) (by omega), f3 q h3 (by omega) (by omega), k2 q (by unfold fD; omega) (by omega)]
  · refine ⟨-2, σ, σ, ?_, ?_, a, m, d, ru, T, n, hW⟩
    · unfold f_X7_fonder
      rw [has_out hC.2.1 hx, bd1_s, if_pos rfl]
    · unfold f_X8_fonder
      rw [isOne_out hM hx, bd1_s, if_pos rfl]
end FonderB

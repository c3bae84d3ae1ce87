/-! drawn, mean, chance -/
section DrawnB
variable {σ : sg_T} {a b : pa_T} {m : Nat} {d : Int32} {ru : Nat} {T : tx_T} {n : Nat}
theorem day_c (h : PC σ 42 a m d (nI ru)) (hT : TC σ T n) (hO : TOk T n) (hru : ru < n) : ∃ σ1 σ2, f_X0_dawn 42 σ = some σ1 ∧ f_X0_settle 42 σ1 = some σ2 ∧ PC σ2 42 (dA T ru a m d m) m (d + 1) (nI ru) ∧ dawnI T ru a m d σ m σ1 ∧ ∀ q, fD q → ¬ (42 ≤ q ∧ q < 50) → σ2 q = σ q := by
  have isP42 : isP 42 := Or.inr (Or.inl rfl)
  obtain ⟨σ1, e1, hD⟩ := dawn_c h isP42 hT hO hru
  have h1 : PC σ1 42 a m d (nI ru) := h.eq (fun p _ _ => hD.2 p (by unfold fD; omega))
  obtain ⟨σ2, e2, h2, f2⟩ := settle_c h1 isP42 hD
  exact ⟨σ1, σ2, e1, e2, h2, hD, fun q g1 g2 => by rw [f2 q (by omega), hD.2 q g1]⟩
/-- who of two is meant by two numbers, if any is, is no more fond -/
def qr (m : Nat) (b : pa_T) (x y : Int32) : pa_T := if 0 ≤ x ∧ x < nI m ∧ 0 ≤ y ∧ y < nI m ∧ x ≠ y then up b x.toNatClampNeg (6 + y.toNatClampNeg) 0 else b
theorem qr_in {i j : Nat} (hm : m ≤ 5) (hi : i < m) (hj : j < m) (hij : i ≠ j) : qr m b (nI i) (nI j) = up b i (6 + j) 0 := by
  unfold qr
  rw [if_pos ⟨nI_pos' (by omega), Int32.not_le.mp (nle_of_lt hi (by omega)), nI_pos' (by omega), Int32.not_le.mp (nle_of_lt hj (by omega)), nIne (by omega) (by omega) hij⟩, nI_clamp (by omega), nI_clamp (by omega)]
theorem qr_out {x y : Int32} (h : out2 m x y) : qr m b x y = b := by
  unfold qr
  rw [if_neg]
  intro ⟨h1, h2, h3, h4, h5⟩
  rcases h with h | ⟨_, h⟩ | ⟨_, h⟩
  · rcases h with h | h
    · exact Int32.not_lt.mpr h1 h
    · exact Int32.not_lt.mpr h h2
  · rcases h with h | h
    · exact Int32.not_lt.mpr h3 h
    · exact Int32.not_lt.mpr h h4
  · exact h5 h
theorem qr_ok (h : OkP b m) (x y : Int32) : OkP (qr m b x y) m := by
  unfold qr
  split
  · refine h.put ?_
    unfold inr hiK
    rw [if_neg (by omega), if_neg (by omega), if_neg (by omega), if_neg (by omega), if_neg (by omega), if_neg (by omega)]
    decide
  · exact h
theorem quar_c (h : PC σ 42 b m d (nI ru)) (x y : Int32) : ∃ τ, f_X1_quarrel 42 x y σ = some τ ∧ PC τ 42 (qr m b x y) m d (nI ru) ∧ ∀ q, ¬ (42 ≤ q ∧ q < 50) → τ q = σ q := by
  have hm := h.1
  unfold f_X1_quarrel
  rcases two x y h.1 with ⟨i, j, hi, hj, hij, rfl, rfl⟩ | ho
  · have e5 : nI i * 5 + nI j = nI (i * 5 + j) := by rw [n_5, pk_mul, nI_add]
    rw [hasTwo_in h hi hj hij, bd1_s, if_neg (by decide), e5, ck_n (by omega) (by decide), nI_clamp (by omega), bnd_s]
    refine ⟨_, rfl, ?_, fun q hq => up_n (by omega)⟩
    rw [qr_in hm hi hj hij]
    exact h.putF hi hj hij 0
  · rw [hasTwo_out h ho, bd1_s, if_pos rfl]
    exact ⟨σ, rfl, by rw [qr_out ho]; exact h, fun _ _ => rfl⟩
/-- the people, the day and what is drawn from, behind k days of quarrels -/
def dQ (T : tx_T) (ru : Nat) (a : pa_T) (m : Nat) (d : Int32) (x : Int32) : Nat → pa_T × Int32 × Int32
  | 0 => (a, d, x)
  | k + 1 => (dA T ru (qr m (dQ T ru a m d x k).1 (jrem (jushr ((dQ T ru a m d x k).2.2 * 1103515245 + 12345) 9) 8) (jrem (jushr (((dQ T ru a m d x k).2.2 * 1103515245 + 12345) * 1103515245 + 12345) 9) 8)) m (dQ T ru a m d x k).2.1 m, (dQ T ru a m d x k).2.1 + 1, ((dQ T ru a m d x k).2.2 * 1103515245 + 12345) * 1103515245 + 12345)
theorem dQ_ok (h : OkP a m) (x : Int32) : ∀ k, OkP (dQ T ru a m d x k).1 m
  | 0 => h
  | k + 1 => dA_ok (qr_ok (dQ_ok h x k) _ _) m (Nat.le_refl _)
theorem draw_c (h : PC σ 34 a m d (nI ru)) (hT : TC σ T n) (hO : TOk T n) (hru : ru < n) {N : Nat} (hN : N ≤ 40) (x : Int32) : ∃ τ, f_X7_missedWhenDrawn x (nI N) σ = some (sS (dQ T ru a m d x N).1 4 m, τ) ∧ ∀ q, fD q → ¬ (42 ≤ q ∧ q < 50) → τ q = σ q := by
  obtain ⟨σ1, e1, hC1, f1⟩ := copy_c (o := 42) (o1 := 34) (Or.inr (by decide)) h
  have hT1 : TC σ1 T n := hT.eq (fun q _ _ _ _ => f1 q (by omega))
  have hrun : ∃ r, itr (fun q => b_X7_missedWhenDrawn_16 x (nI N) q.1 q.2.1 q.2.2) lfu (x, 0, σ1) = some r ∧ (PC r.2.2 42 (dQ T ru a m d x N).1 m (dQ T ru a m d x N).2.1 (nI ru) ∧ ∀ q, fD q → ¬ (42 ≤ q ∧ q < 50) → r.2.2 q = σ1 q) := by
    refine itr_run (f := fun q => b_X7_missedWhenDrawn_16 x (nI N) q.1 q.2.1 q.2.2) (I := fun k q => q.1 = (dQ T ru a m d x k).2.2 ∧ q.2.1 = nI k ∧ PC q.2.2 42 (dQ T ru a m d x k).1 m (dQ T ru a m d x k).2.1 (nI ru) ∧ ∀ p, fD p → ¬ (42 ≤ p ∧ p < 50) → q.2.2 p = σ1 p) (R := fun r => PC r.2.2 42 (dQ T ru a m d x N).1 m (dQ T ru a m d x N).2.1 (nI ru) ∧ ∀ q, fD q → ¬ (42 ≤ q ∧ q < 50) → r.2.2 q = σ1 q) N (a := (x, 0, σ1)) ⟨rfl, rfl, hC1, fun _ _ _ => rfl⟩ ?_ ?_ (by omega)
    · intro k hk ⟨w1, w, τ⟩ ⟨hw1, hw, hP, hF⟩
      dsimp only at hw1 hw hP hF ⊢
      subst hw1 hw
      obtain ⟨τ1, g1, hP1, k1⟩ := quar_c hP (jrem (jushr ((dQ T ru a m d x k).2.2 * 1103515245 + 12345) 9) 8) (jrem (jushr (((dQ T ru a m d x k).2.2 * 1103515245 + 12345) * 1103515245 + 12345) 9) 8)
      have hT2 : TC τ1 T n := hT1.eq (fun q _ _ h3 h4 => by rw [k1 q (by omega)]; exact hF q (by unfold fD; omega) (by omega))
      obtain ⟨τ2, τ3, g2, g3, hP3, _, k3⟩ := day_c hP1 hT2 hO hru
      unfold b_X7_missedWhenDrawn_16
      rw [if_neg (nle_of_lt hk (by omega)), bnd_s, bnd_s, g1, bd1_s, g2, bd1_s, g3, bd1_s, bnd_s, nI_1]
      exact ⟨_, rfl, rfl, rfl, hP3, fun p q1 q2 => by dsimp only; rw [k3 p q1 q2, k1 p q2]; exact hF p q1 q2⟩
    · intro ⟨w1, w, τ⟩ ⟨hw1, hw, hP, hF⟩
      dsimp only at hw1 hw hP hF ⊢
      subst hw1 hw
      unfold b_X7_missedWhenDrawn_16
      rw [if_pos (Int32.le_refl _)]
      exact ⟨_, rfl, hP, hF⟩
  obtain ⟨⟨w1, w, τ⟩, e2, hP, f2⟩ := hrun
  dsimp only at hP f2
  have e3 : f_X1_sum 42 4 τ = some (sS (dQ T ru a m d x N).1 4 m) := sum_c (w := 4) hP (by decide) (by decide)
  refine ⟨τ, ?_, fun q q1 q2 => by rw [f2 q q1 q2, f1 q (by omega)]⟩
  unfold f_X7_missedWhenDrawn
  rw [e1, bd1_s, e2, bd3_s, e3, bd1_s]
theorem draw_m (h : PM σ 70 a m d (nI ru)) (hok : OkP a m) (hT : TM σ T n) (hO : TOk T n) (hru : ru < n) {N : Nat} (hN : N ≤ 40) (x : Int32) : ∃ τ, f_X8_drawn x (nI N) σ = some (sS (dQ T ru a m d x N).1 4 m, τ) ∧ PM τ 70 a m d (nI ru) ∧ ∀ q, q ≠ 70 → q ≠ 72 → ¬ (79 ≤ q ∧ q ≤ 83) → τ q = σ q := by
  have hm := h.1
  obtain ⟨σ1, e1, b1, f1⟩ := keep_m σ (p := 72) (by decide)
  have h1 : PM σ1 70 a m d (nI ru) := h.eq (f1 70 (by decide))
  have h72 : PM σ1 72 a m d (nI ru) := h.cp b1
  have hT1 : TM σ1 T n := TM_scr hT (fun q hq => f1 q (by omega))
  have hrun : ∃ r, itr (fun q => b_X8_drawn_26 x (nI N) q.1 q.2.1 q.2.2) lfu (x, 0, σ1) = some r ∧ (PM r.2.2 70 (dQ T ru a m d x N).1 m (dQ T ru a m d x N).2.1 (nI ru) ∧ ∀ q, q ≠ 70 → ¬ (79 ≤ q ∧ q ≤ 83) → r.2.2 q = σ1 q) := by
    refine itr_run (f := fun q => b_X8_drawn_26 x (nI N) q.1 q.2.1 q.2.2) (I := fun k q => q.1 = (dQ T ru a m d x k).2.2 ∧ q.2.1 = nI k ∧ PM q.2.2 70 (dQ T ru a m d x k).1 m (dQ T ru a m d x k).2.1 (nI ru) ∧ ∀ p, p ≠ 70 → ¬ (79 ≤ p ∧ p ≤ 83) → q.2.2 p = σ1 p) (R := fun r => PM r.2.2 70 (dQ T ru a m d x N).1 m (dQ T ru a m d x N).2.1 (nI ru) ∧ ∀ q, q ≠ 70 → ¬ (79 ≤ q ∧ q ≤ 83) → r.2.2 q = σ1 q) N (a := (x, 0, σ1)) ⟨rfl, rfl, h1, fun _ _ _ => rfl⟩ ?_ ?_ (by omega)
    · intro k hk ⟨w1, w, τ⟩ ⟨hw1, hw, hP, hF⟩
      dsimp only at hw1 hw hP hF ⊢
      subst hw1 hw
      have hT2 : TM τ T n := TM_scr hT1 (fun q hq => hF q (by omega) (by omega))
      unfold b_X8_drawn_26
      rw [if_neg (nle_of_lt hk (by omega)), bnd_s, bnd_s, bnd_s, bnd_s]
      rcases two (jrem (jushr ((dQ T ru a m d x k).2.2 * 1103515245 + 12345) 9) 8) (jrem (jushr (((dQ T ru a m d x k).2.2 * 1103515245 + 12345) * 1103515245 + 12345) 9) 8) h.1 with ⟨i, j, hi, hj, hij, ei, ej⟩ | ho
      · have hq : qr m (dQ T ru a m d x k).1 (jrem (jushr ((dQ T ru a m d x k).2.2 * 1103515245 + 12345) 9) 8) (jrem (jushr (((dQ T ru a m d x k).2.2 * 1103515245 + 12345) * 1103515245 + 12345) 9) 8) = up (dQ T ru a m d x k).1 i (6 + j) 0 := by rw [ei, ej]; exact qr_in hm hi hj hij
        have e6 : (6 : Int32) + nI j = nI (6 + j) := by rw [n_6, nI_add]
        have c1 : f_X8_change (nI i) (6 + nI j) 0 τ = some (up τ 70 (11 * i + (6 + j)) 0) := by rw [e6]; exact chg_m (by omega) (by omega) 0
        have hP1 : PM (up τ 70 (11 * i + (6 + j)) 0) 70 (up (dQ T ru a m d x k).1 i (6 + j) 0) m (dQ T ru a m d x k).2.1 (nI ru) := hP.put (by omega) (by omega) 0
        have hT3 : TM (up τ 70 (11 * i + (6 + j)) 0) T n := TM_scr hT2 (fun q hq => up_n (by omega))
        obtain ⟨τ1, g1, hP2, k1⟩ := goDay_m hP1 (by rw [← hq]; exact qr_ok (dQ_ok hok x k) _ _) hT3 hO hru
        rw [ei, ej, isTwo_in hP hi hj hij, bd1_s, if_neg (by decide), c1, bd1_s, g1, bd2_s, bnd_s, nI_1]
        refine ⟨_, rfl, rfl, rfl, ?_, fun p q1 q2 => by dsimp only; rw [k1 p q1 q2, up_n q1]; exact hF p q1 q2⟩
        rw [← hq] at hP2
        exact hP2
      · obtain ⟨τ1, g1, hP2, k1⟩ := goDay_m hP (dQ_ok hok x k) hT2 hO hru
        rw [isTwo_out hP ho, bd1_s, if_pos rfl, g1, bd2_s, bnd_s, nI_1]
        refine ⟨_, rfl, rfl, rfl, ?_, fun p q1 q2 => by dsimp only; rw [k1 p q1 q2]; exact hF p q1 q2⟩
        have hq : qr m (dQ T ru a m d x k).1 (jrem (jushr ((dQ T ru a m d x k).2.2 * 1103515245 + 12345) 9) 8) (jrem (jushr (((dQ T ru a m d x k).2.2 * 1103515245 + 12345) * 1103515245 + 12345) 9) 8) = (dQ T ru a m d x k).1 := qr_out ho
        rw [← hq] at hP2
        exact hP2
    · intro ⟨w1, w, τ⟩ ⟨hw1, hw, hP, hF⟩
      dsimp only at hw1 hw hP hF ⊢
      subst hw1 hw
      unfold b_X8_drawn_26
      rw [if_pos (Int32.le_refl _)]
      exact ⟨_, rfl, hP, hF⟩
  obtain ⟨⟨w1, w, τ⟩, e2, hP, f2⟩ := hrun
  dsimp only at hP f2
  have e3 : f_X8_all 4 τ = some (sS (dQ T ru a m d x N).1 4 m) := all_m (w := 4) hP (by decide)
  have h73 : PM τ 72 a m d (nI ru) := h72.eq (f2 72 (by decide) (by decide))
  obtain ⟨σ3, e4, b4, f4⟩ := lay_m τ (p := 72) (by decide)
  refine ⟨σ3, ?_, h73.cp b4, fun q h1 h2 h3 => by rw [f4 q h1, f2 q h1 h3, f1 q h2]⟩
  have hin : f_X8_isIn (nI N) 0 40 σ = some 1 := isIn_1 (nI_pos' (by omega)) (le_of_le (i := 40) hN (by decide))
  unfold f_X8_drawn
  rw [hin, bd1_s, if_neg (by decide), e1, bd1_s, e2, bd3_s, e3, bd1_s, e4, bd1_s]
theorem sm_drawn (x y : Int32) : SM (f_X7_drawn x y) (f_X8_drawn x y) := by
  intro σ ⟨a, m, d, ru, T, n, h⟩
  have hW := h
  obtain ⟨hC, hM, hok, hd, hru, hTC, hTM, hO, _⟩ := h
  have e0 : (0 : Int32).toInt = 0 := by decide
  have e40 : (40 : Int32).toInt = 40 := by decide
  by_cases y0 : y < 0
  · refine ⟨-2, σ, σ, ?_, ?_, a, m, d, ru, T, n, hW⟩
    · unfold f_X7_drawn
      rw [if_pos y0]
    · unfold f_X8_drawn
      rw [isIn_0 (Or.inl y0), bd1_s, if_pos rfl]
  · by_cases y1 : y ≤ 40
    · have hy : ∃ N, N ≤ 40 ∧ y = nI N := by
        have y0' := y0
        have y1' := y1
        rw [Int32.lt_iff_toInt_lt] at y0'
        rw [Int32.le_iff_toInt_le] at y1'
        exact ⟨y.toInt.toNat, by omega, Int32.toInt_inj.mp (by rw [nI_toInt (by omega)]; omega)⟩
      obtain ⟨N, hN, rfl⟩ := hy
      obtain ⟨σ1, e1, f1⟩ := draw_c hC hTC hO hru hN x
      have hM1 : PM σ1 70 a m d (nI ru) := hM.eq (f1 70 (by unfold fD; omega) (by omega))
      have hTM1 : TM σ1 T n := TM_scr hTM (fun q hq => f1 q (by unfold fD; omega) (by omega))
      obtain ⟨σ2, e2, hP2, f2⟩ := draw_m hM1 hok hTM1 hO hru hN x
      refine ⟨_, σ1, σ2, ?_, e2, a, m, d, ru, T, n, hW.new (hC.eq (fun p _ _ => ?_)) hP2 hok hd hru (fun q h1 h2 h3 => ?_)⟩
      · unfold f_X7_drawn
        rw [if_neg y0, if_pos y1, e1, bd2_s]
      · rw [f2 p (by omega) (by omega) (by omega), f1 p (by unfold fD; omega) (by omega)]
      · unfold kp at h1
        rw [f2 q h3 (by omega) (by omega), f1 q (by unfold fD; omega) (by omega)]
    · refine ⟨-2, σ, σ, ?_, ?_, a, m, d, ru, T, n, hW⟩
      · unfold f_X7_drawn
        rw [if_neg y0, if_neg y1]
      · unfold f_X8_drawn
        rw [isIn_0 (Or.inr (Int32.not_le.mp y1)), bd1_s, if_pos rfl]
end DrawnB

/-! duty and fonder: days run in thought over changed people -/
section DutyB
variable {σ : sg_T} {a b : pa_T} {m : Nat} {d : Int32} {ru : Nat} {T : tx_T} {n : Nat}
theorem up_up (a : pa_T) (i k : Nat) (x y : Int32) : up (up a i k x) i k y = up a i k y := by
  funext p q
  rw [up_at, up_at, up_at]
  by_cases h : p = i ∧ q = k
  · rw [if_pos h, if_pos h]
  · rw [if_neg h, if_neg h, if_neg h]
theorem up_self (a : pa_T) (i k : Nat) : up a i k (a i k) = a := by
  funext p q
  rw [up_at]
  by_cases h : p = i ∧ q = k
  · rw [if_pos h, h.1, h.2]
  · rw [if_neg h]
theorem sS_rng (h : OkP a m) : ∀ k, k ≤ m → k ≤ 5 → inr (sS a 5 k) 0 (9999 * k)
  | 0, _, _ => by unfold sS inr; decide
  | k + 1, hk, h5 => by
    have i1 := sS_rng h k (by omega) (by omega)
    have i2 := (h k (by omega)).2.2.2.2.2.1
    show inr (sS a 5 k + a k 5) 0 _
    unfold inr at i1 i2 ⊢
    rw [add_toInt (by omega) (by omega)]; omega
theorem lateB_c (h : PC σ 34 a m d (nI ru)) (hT : TC σ T n) (hO : TOk T n) (hru : ru < n) {N : Nat} (hN : N ≤ 40) {w x v : Int32} (hp : ∀ τ, PC τ 42 a m d (nI ru) → ∃ τ', f_X1_put 42 w x v τ = some τ' ∧ PC τ' 42 b m d (nI ru) ∧ ∀ q, ¬ (42 ≤ q ∧ q < 50) → τ' q = τ q) : ∃ τ, f_X7_lateBehind (nI N) w x v σ = some (sS (dN T ru b m d N).1 5 m, τ) ∧ ∀ q, fD q → ¬ (42 ≤ q ∧ q < 50) → τ q = σ q := by
  obtain ⟨σ1, e1, hC1, f1⟩ := copy_c (o := 42) (o1 := 34) (Or.inr (by decide)) h
  obtain ⟨σ2, e2, hC2, f2⟩ := hp σ1 hC1
  have hT2 : TC σ2 T n := hT.eq (fun q _ _ _ _ => by rw [f2 q (by omega)]; exact f1 q (by omega))
  obtain ⟨σ3, e3, hC3, f3⟩ := pass_c hC2 hT2 hO hru hN
  have e4 : f_X1_sum 42 5 σ3 = some (sS (dN T ru b m d N).1 5 m) := sum_c (w := 5) hC3 (by decide) (by decide)
  refine ⟨σ3, ?_, fun q h1 h2 => by rw [f3 q h1 h2, f2 q h2, f1 q (by omega)]⟩
  unfold f_X7_lateBehind
  rw [e1, bd1_s, e2, bd1_s, e3, bd1_s, e4, bd1_s]
theorem lateB_m (h : PM σ 70 a m d (nI ru)) (hok : OkP a m) (hT : TM σ T n) (hO : TOk T n) (hru : ru < n) {N : Nat} (hN : N ≤ 40) : ∃ τ, f_X8_lateBehind (nI N) σ = some (sS (dN T ru a m d N).1 5 m, τ) ∧ PM τ 70 a m d (nI ru) ∧ ∀ q, q ≠ 70 → q ≠ 72 → ¬ (79 ≤ q ∧ q ≤ 83) → τ q = σ q := by
  obtain ⟨σ1, e1, b1, f1⟩ := keep_m σ (p := 72) (by decide)
  have h1 : PM σ1 70 a m d (nI ru) := h.eq (f1 70 (by decide))
  have h72 : PM σ1 72 a m d (nI ru) := h.cp b1
  have hT1 : TM σ1 T n := TM_scr hT (fun q hq => f1 q (by omega))
  obtain ⟨σ2, e2, h2, f2⟩ := pass_m h1 hok hT1 hO hru hN
  have e3 : f_X8_all 5 σ2 = some (sS (dN T ru a m d N).1 5 m) := all_m (w := 5) h2 (by decide)
  have h73 : PM σ2 72 a m d (nI ru) := h72.eq (f2 72 (by decide) (by decide))
  obtain ⟨σ3, e4, b4, f4⟩ := lay_m σ2 (p := 72) (by decide)
  refine ⟨σ3, ?_, h73.cp b4, fun q h1 h2 h3 => by rw [f4 q h1, f2 q h1 h3, f1 q h2]⟩
  unfold f_X8_lateBehind
  rw [e1, bd1_s, e2, bd1_s, e3, bd1_s, e4, bd1_s]
/-- the least so far -/
def bst (f : Nat → Int32) (p : Nat → Bool) (i0 : Int32) (l : Int32) : Nat → Int32 × Int32
  | 0 => (i0, l)
  | k + 1 => if p k = true then (if (bst f p i0 l k).2 ≤ f k then bst f p i0 l k else (nI k, f k)) else bst f p i0 l k
theorem bst_1 (f : Nat → Int32) (p : Nat → Bool) (i0 l : Int32) (k : Nat) : bst f p i0 l (k + 1) = if p k = true then (if (bst f p i0 l k).2 ≤ f k then bst f p i0 l k else (nI k, f k)) else bst f p i0 l k := rfl
theorem bst_lim {f : Nat → Int32} {i0 l l' : Int32} (h1 : ¬ l ≤ f 0) (h2 : ¬ l' ≤ f 0) : ∀ k, bst f (fun _ => true) i0 l (k + 1) = bst f (fun _ => true) i0 l' (k + 1)
  | 0 => by
    rw [bst_1, bst_1, if_pos rfl, if_pos rfl]
    show (if l ≤ f 0 then _ else _) = (if l' ≤ f 0 then _ else _)
    rw [if_neg h1, if_neg h2]
  | k + 1 => by
    rw [bst_1, bst_lim h1 h2 k]; rfl
theorem jmin_if (x y : Int32) : jmin x y = if y ≤ x then y else x := by
  refine Int32.toInt_inj.mp ?_
  rw [jmin_toInt]
  by_cases h : y ≤ x
  · rw [if_pos h]; rw [Int32.le_iff_toInt_le] at h; omega
  · rw [if_neg h]; rw [Int32.le_iff_toInt_le] at h; omega
theorem duty_c (h : PC σ 34 a m d (nI ru)) (hT : TC σ T n) (hO : TOk T n) (hru : ru < n) {N : Nat} (hN : N ≤ 40) {i : Nat} (hi : i < m) (z : Int32) : ∃ r, itr (fun q => b_X7_duty_43 (nI i) (nI N) z q.1 q.2.1 q.2.2.1 q.2.2.2) lfu (0, 1000000, 0, σ) = some r ∧ (r.1 = (bst (fun h => sS (dN T ru (up a i 2 (nI h)) m d N).1 5 m) (fun _ => true) 0 1000000 24).1 ∧ r.2.1 = (bst (fun h => sS (dN T ru (up a i 2 (nI h)) m d N).1 5 m) (fun _ => true) 0 1000000 24).2 ∧ ∀ q, fD q → ¬ (42 ≤ q ∧ q < 50) → r.2.2.2 q = σ q) := by
  refine itr_run (f := fun q => b_X7_duty_43 (nI i) (nI N) z q.1 q.2.1 q.2.2.1 q.2.2.2) (I := fun k q => q.1 = (bst (fun h => sS (dN T ru (up a i 2 (nI h)) m d N).1 5 m) (fun _ => true) 0 1000000 k).1 ∧ q.2.1 = (bst (fun h => sS (dN T ru (up a i 2 (nI h)) m d N).1 5 m) (fun _ => true) 0 1000000 k).2 ∧ q.2.2.1 = nI k ∧ ∀ p, fD p → ¬ (42 ≤ p ∧ p < 50) → q.2.2.2 p = σ p) (R := fun r => r.1 = (bst (fun h => sS (dN T ru (up a i 2 (nI h)) m d N).1 5 m) (fun _ => true) 0 1000000 24).1 ∧ r.2.1 = (bst (fun h => sS (dN T ru (up a i 2 (nI h)) m d N).1 5 m) (fun _ => true) 0 1000000 24).2 ∧ ∀ q, fD q → ¬ (42 ≤ q ∧ q < 50) → r.2.2.2 q = σ q) 24 (a := (0, 1000000, 0, σ)) ⟨rfl, rfl, rfl, fun _ _ _ => rfl⟩ ?_ ?_ (by omega)
  · intro k hk ⟨w1, w2, w3, τ⟩ ⟨h1, h2, h3, hF⟩
    dsimp only at h1 h2 h3 hF ⊢
    subst h1 h2 h3
    have hC1 : PC τ 34 a m d (nI ru) := h.eq (fun p _ _ => hF p (by unfold fD; omega) (by omega))
    have hT1 : TC τ T n := hT.eq (fun q _ _ _ _ => hF q (by unfold fD; omega) (by omega))
    obtain ⟨τ1, e1, f1⟩ := lateB_c (b := up a i 2 (nI k)) (w := 2) (x := nI i) (v := nI k) hC1 hT1 hO hru hN (fun ρ hρ => ⟨_, putk_c (w := 2) hρ (by decide) (by decide) hi (nI k), hρ.put (k := 2) (by decide) (nI k), fun q hq => up_n (by omega)⟩)
    have fr : ∀ p, fD p → ¬ (42 ≤ p ∧ p < 50) → τ1 p = σ p := fun p g1 g2 => by rw [f1 p g1 g2]; exact hF p g1 g2
    unfold b_X7_duty_43
    rw [if_neg (show ¬ (24 : Int32) ≤ nI k from nle_of_lt (m := 24) hk (by decide)), e1, bd2_s, bst_1, if_pos rfl]
    by_cases hle : (bst (fun h => sS (dN T ru (up a i 2 (nI h)) m d N).1 5 m) (fun _ => true) 0 1000000 k).2 ≤ sS (dN T ru (up a i 2 (nI k)) m d N).1 5 m
    · rw [if_pos hle, if_pos hle, bnd_s, nI_1]
      exact ⟨_, rfl, rfl, rfl, rfl, fr⟩
    · rw [if_neg hle, if_neg hle, bnd_s, nI_1]
      exact ⟨_, rfl, rfl, rfl, rfl, fr⟩
  · intro ⟨w1, w2, w3, τ⟩ ⟨h1, h2, h3, hF⟩
    dsimp only at h1 h2 h3 hF ⊢
    subst h1 h2 h3
    refine ⟨(_, _, nI 24, τ), ?_, rfl, rfl, hF⟩
    unfold b_X7_duty_43
    rw [if_pos (by decide)]
theorem duty_m (h : PM σ 70 a m d (nI ru)) (hok : OkP a m) (hT : TM σ T n) (hO : TOk T n) (hru : ru < n) {N : Nat} (hN : N ≤ 40) {i : Nat} (hi : i < m) (z : Int32) : ∃ r, itr (fun q => b_X8_duty_48 (nI i) (nI N) z (a i 2) q.1 q.2.1 q.2.2.1 q.2.2.2) lfu (0, 2147483647, 0, σ) = some r ∧ (r.1 = (bst (fun h => sS (dN T ru (up a i 2 (nI h)) m d N).1 5 m) (fun _ => true) 0 2147483647 24).1 ∧ r.2.1 = (bst (fun h => sS (dN T ru (up a i 2 (nI h)) m d N).1 5 m) (fun _ => true) 0 2147483647 24).2 ∧ (∃ v, PM r.2.2.2 70 (up a i 2 v) m d (nI ru)) ∧ ∀ q, q ≠ 70 → q ≠ 72 → ¬ (79 ≤ q ∧ q ≤ 83) → r.2.2.2 q = σ q) := by
  refine itr_run (f := fun q => b_X8_duty_48 (nI i) (nI N) z (a i 2) q.1 q.2.1 q.2.2.1 q.2.2.2) (I := fun k q => q.1 = (bst (fun h => sS (dN T ru (up a i 2 (nI h)) m d N).1 5 m) (fun _ => true) 0 2147483647 k).1 ∧ q.2.1 = (bst (fun h => sS (dN T ru (up a i 2 (nI h)) m d N).1 5 m) (fun _ => true) 0 2147483647 k).2 ∧ q.2.2.1 = nI k ∧ (∃ v, PM q.2.2.2 70 (up a i 2 v) m d (nI ru)) ∧ ∀ p, p ≠ 70 → p ≠ 72 → ¬ (79 ≤ p ∧ p ≤ 83) → q.2.2.2 p = σ p) (R := fun r => r.1 = (bst (fun h => sS (dN T ru (up a i 2 (nI h)) m d N).1 5 m) (fun _ => true) 0 2147483647 24).1 ∧ r.2.1 = (bst (fun h => sS (dN T ru (up a i 2 (nI h)) m d N).1 5 m) (fun _ => true) 0 2147483647 24).2 ∧ (∃ v, PM r.2.2.2 70 (up a i 2 v) m d (nI ru)) ∧ ∀ q, q ≠ 70 → q ≠ 72 → ¬ (79 ≤ q ∧ q ≤ 83) → r.2.2.2 q = σ q) 24 (a := (0, 2147483647, 0, σ)) ⟨rfl, rfl, rfl, ⟨a i 2, by rw [up_self]; exact h⟩, fun _ _ _ _ => rfl⟩ ?_ ?_ (by omega)
  · intro k hk ⟨w1, w2, w3, τ⟩ ⟨h1, h2, h3, ⟨v, hP⟩, hF⟩
    dsimp only at h1 h2 h3 hP hF ⊢
    subst h1 h2 h3
    have hm := h.1
    have hP1 : PM (up τ 70 (11 * i + 2) (nI k)) 70 (up a i 2 (nI k)) m d (nI ru) := by
      have := hP.put (i := i) (k := 2) (by omega) (by decide) (nI k)
      rw [up_up] at this; exact this
    have hok1 : OkP (up a i 2 (nI k)) m := hok.put (by unfold inr hiK; rw [nI_toInt (by omega)]; simp; omega)
    have hT1 : TM (up τ 70 (11 * i + 2) (nI k)) T n := TM_scr hT (fun q hq => by rw [up_n (by omega)]; exact hF q (by omega) (by omega) (by omega))
    obtain ⟨τ1, e1, hP2, f1⟩ := lateB_m hP1 hok1 hT1 hO hru hN
    have e0 : f_X8_change (nI i) 2 (nI k) τ = some (up τ 70 (11 * i + 2) (nI k)) := chg_m (k := 2) (by omega) (by decide) (nI k)
    unfold b_X8_duty_48
    rw [if_neg (show ¬ (24 : Int32) ≤ nI k from nle_of_lt (m := 24) hk (by decide)), e0, bd1_s, e1, bd2_s, bst_1, if_pos rfl, bnd_s, bnd_s, bnd_s, nI_1, jmin_if]
    have fr : ∀ p, p ≠ 70 → p ≠ 72 → ¬ (79 ≤ p ∧ p ≤ 83) → τ1 p = σ p := fun p g1 g2 g3 => by rw [f1 p g1 g2 g3, up_n g1]; exact hF p g1 g2 g3
    refine ⟨_, rfl, ?_, ?_, rfl, ⟨_, hP2⟩, fr⟩
    · dsimp only
      split <;> rfl
    · dsimp only
      split <;> rfl
  · intro ⟨w1, w2, w3, τ⟩ ⟨h1, h2, h3, hP, hF⟩
    dsimp only at h1 h2 h3 hP hF ⊢
    subst h1 h2 h3
    refine ⟨(_, _, nI 24, τ), ?_, rfl, rfl, hP, hF⟩
    unfold b_X8_duty_48
    rw [if_pos (by decide)]
theorem lim_1 (h : OkP a m) (hm : m ≤ 5) {l : Int32} (hl : 1000000 ≤ l.toInt) : ¬ l ≤ sS a 5 m := fun q => by
  have h1 := sS_rng h m (Nat.le_refl _) hm
  unfold inr at h1
  rw [Int32.le_iff_toInt_le] at q
  omega
theorem yz_no {y z : Int32} (hyz : ¬ (y < 0 ∨ 20 < y ∨ z < 0 ∨ 1 < z)) : (∃ N, N ≤ 20 ∧ y = nI N) ∧ (z = 0 ∨ z = 1) := by
  have e0 : (0 : Int32).toInt = 0 := by decide
  have e1 : (1 : Int32).toInt = 1 := by decide
  have e20 : (20 : Int32).toInt = 20 := by decide
  simp only [Int32.lt_iff_toInt_lt, not_or] at hyz
  refine ⟨⟨y.toInt.toNat, by omega, Int32.toInt_inj.mp (by rw [nI_toInt (by omega)]; omega)⟩, ?_⟩
  by_cases hz : z.toInt = 0
  · exact Or.inl (Int32.toInt_inj.mp (by omega))
  · exact Or.inr (Int32.toInt_inj.mp (by omega))
theorem sm_duty (x y z : Int32) : SM (f_X7_duty x y z) (f_X8_duty x y z) := by
  intro σ ⟨a, m, d, ru, T, n, h⟩
  have hW := h
  obtain ⟨hC, hM, hok, hd, hru, hTC, hTM, hO, _⟩ := h
  have hm := hC.1
  rcases who x hC.1 with ⟨i, hi, rfl⟩ | hx
  · by_cases hyz : y < 0 ∨ 20 < y ∨ z < 0 ∨ 1 < z
    · refine ⟨-2, σ, σ, ?_, ?_, a, m, d, ru, T, n, hW⟩
      · unfold f_X7_duty
        rw [has_in hC.2.1 hC.1 hi, bd1_s, if_neg (by decide)]
        by_cases y0 : y < 0
        · rw [if_pos y0]
        · by_cases y1 : 20 < y
          · rw [if_neg y0, if_pos y1]
          · by_cases z0 : z < 0
            · rw [if_neg y0, if_neg y1, if_pos z0]
            · have z1 : ¬ z ≤ 1 := Int32.not_le.mpr (((hyz.resolve_left y0).resolve_left y1).resolve_left z0)
              rw [if_neg y0, if_neg y1, if_neg z0, if_neg z1]
      · unfold f_X8_duty
        rw [isOne_in hM hi, bd1_s, if_neg (by decide)]
        by_cases hy : y < 0 ∨ 20 < y
        · rw [isIn_0 hy, bd1_s, if_pos rfl]
        · have y0 : ¬ y < 0 := fun q => hy (Or.inl q)
          have y1 : ¬ 20 < y := fun q => hy (Or.inr q)
          rw [isIn_1 (Int32.not_lt.mp y0) (Int32.not_lt.mp y1), bd1_s, if_neg (by decide), isIn_0 ((hyz.resolve_left y0).resolve_left y1), bd1_s, if_pos rfl]
    · have y0 : ¬ y < 0 := fun q => hyz (Or.inl q)
      have y1 : ¬ 20 < y := fun q => hyz (Or.inr (Or.inl q))
      have z0 : ¬ z < 0 := fun q => hyz (Or.inr (Or.inr (Or.inl q)))
      have z1 : z ≤ 1 := Int32.not_lt.mp (fun q => hyz (Or.inr (Or.inr (Or.inr q))))
      obtain ⟨⟨N, hN, rfl⟩, hz⟩ := yz_no hyz
      obtain ⟨⟨v1, v2, v3, σ1⟩, e1, r1, r2, f1⟩ := duty_c hC hTC hO hru (N := N) (by omega) hi z
      dsimp only at r1 r2 f1
      have hM1 : PM σ1 70 a m d (nI ru) := hM.eq (f1 70 (by unfold fD; omega) (by omega))
      have hTM1 : TM σ1 T n := TM_scr hTM (fun q hq => f1 q (by unfold fD; omega) (by omega))
      obtain ⟨⟨u1, u2, u3, σ2⟩, e2, s1, s2, ⟨v, hP2⟩, f2⟩ := duty_m hM1 hok hTM1 hO hru (N := N) (by omega) hi z
      dsimp only at s1 s2 hP2 f2
      have hb : bst (fun h => sS (dN T ru (up a i 2 (nI h)) m d N).1 5 m) (fun _ => true) 0 1000000 24 = bst (fun h => sS (dN T ru (up a i 2 (nI h)) m d N).1 5 m) (fun _ => true) 0 2147483647 24 := by
        have ok0 : OkP (dN T ru (up a i 2 (nI 0)) m d N).1 m := dN_ok (hok.put (by unfold inr hiK; rw [nI_toInt (by omega)]; simp)) N
        exact bst_lim (lim_1 ok0 hm (by decide)) (lim_1 ok0 hm (by decide)) 23
      rw [hb] at r1 r2
      have e3 : f_X8_change (nI i) 2 (a i 2) σ2 = some (up σ2 70 (11 * i + 2) (a i 2)) := chg_m (k := 2) (by omega) (by decide) (a i 2)
      have hP3 : PM (up σ2 70 (11 * i + 2) (a i 2)) 70 a m d (nI ru) := by
        have := hP2.put (i := i) (k := 2) (by omega) (by decide) (a i 2)
        rw [up_up, up_self] at this; exact this
      have o2 : f_X8_of (nI i) 2 σ1 = some (a i 2) := ofk_m (k := 2) hM1 hi (by decide)
      have r12 : v1 = u1 ∧ v2 = u2 := ⟨by rw [r1, s1], by rw [r2, s2]⟩
      obtain ⟨rfl, rfl⟩ := r12
      refine ⟨if z = 0 then v1 else v2, σ1, up σ2 70 (11 * i + 2) (a i 2), ?_, ?_, a, m, d, ru, T, n, hW.new (hC.eq (fun p _ _ => ?_)) hP3 hok hd hru (fun q h1 h2 h3 => ?_)⟩
      · unfold f_X7_duty
        rw [has_in hC.2.1 hC.1 hi, bd1_s, if_neg (by decide), if_neg y0, if_neg y1, if_neg z0, if_pos z1, e1, bd4_s, bnd_s]
      · unfold f_X8_duty
        rw [isOne_in hM1 hi, bd1_s, if_neg (by decide), isIn_1 (Int32.not_lt.mp y0) (Int32.not_lt.mp y1), bd1_s, if_neg (by decide), isIn_1 (Int32.not_lt.mp z0) z1, bd1_s, if_neg (by decide), o2, bd1_s, e2, bd4_s, e3, bd1_s, bnd_s]
      · rw [up_n (by omega), f2 p (by omega) (by omega) (by omega), f1 p (by unfold fD; omega) (by omega)]
      · unfold kp at h1
        rw [up_n h3, f2 q h3 (by omega) (by omega), f1 q (by unfold fD; omega) (by omega)]
  · refine ⟨-2, σ, σ, ?_, ?_, a, m, d, ru, T, n, hW⟩
    · unfold f_X7_duty
      rw [has_out hC.2.1 hx, bd1_s, if_pos rfl]
    · unfold f_X8_duty
      rw [isOne_out hM hx, bd1_s, if_pos rfl]
end DutyB
